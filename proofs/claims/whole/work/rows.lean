section
-- ===== PART A: goes FIRST, ahead of the names: the tables' words, and 'selects' of the private methods out of them =====
/-- a private method of a class that the tables say can be made, by its rows of tables_1 -/
def lw_okq (q : MethodName × Nat) : Prop := (q.1.cls ≠ "java/lang/invoke/MethodHandle" ∧ q.1.cls ≠ "java/lang/invoke/VarHandle") ∧ Cond.instantiable q.1.cls q.2 ∈ tables_1 ∧ Cond.privateMethod q.1 ∈ tables_1 ∧ Cond.instanceMethod q.1 ∈ tables_1
theorem lw_p0 : lw_okq (⟨"GaugeColumns$Tester", "voidCertificates", "()V"⟩, 6) := ⟨⟨by decide +kernel, by decide +kernel⟩, List.mem_of_getElem? (i := 22) (by decide +kernel), List.mem_of_getElem? (i := 220) (by decide +kernel), List.mem_of_getElem? (i := 221) (by decide +kernel)⟩
theorem lw_p1 : lw_okq (⟨"GaugeColumns$Tester", "moveHands", "()I"⟩, 6) := ⟨⟨by decide +kernel, by decide +kernel⟩, List.mem_of_getElem? (i := 22) (by decide +kernel), List.mem_of_getElem? (i := 224) (by decide +kernel), List.mem_of_getElem? (i := 225) (by decide +kernel)⟩
theorem lw_p2 : lw_okq (⟨"GaugeColumns$Tester", "massToNext", "(I)I"⟩, 6) := ⟨⟨by decide +kernel, by decide +kernel⟩, List.mem_of_getElem? (i := 22) (by decide +kernel), List.mem_of_getElem? (i := 437) (by decide +kernel), List.mem_of_getElem? (i := 438) (by decide +kernel)⟩
theorem lw_p3 : lw_okq (⟨"GaugeColumns$Pad", "pass", "(I)Z"⟩, 5) := ⟨⟨by decide +kernel, by decide +kernel⟩, List.mem_of_getElem? (i := 151) (by decide +kernel), List.mem_of_getElem? (i := 496) (by decide +kernel), List.mem_of_getElem? (i := 497) (by decide +kernel)⟩
theorem lw_p4 : lw_okq (⟨"GaugeColumns$Pad", "signAt", "(I)I"⟩, 5) := ⟨⟨by decide +kernel, by decide +kernel⟩, List.mem_of_getElem? (i := 151) (by decide +kernel), List.mem_of_getElem? (i := 500) (by decide +kernel), List.mem_of_getElem? (i := 501) (by decide +kernel)⟩
theorem lw_p5 : lw_okq (⟨"GaugeColumns$Pad", "readNumber", "(I)Z"⟩, 5) := ⟨⟨by decide +kernel, by decide +kernel⟩, List.mem_of_getElem? (i := 151) (by decide +kernel), List.mem_of_getElem? (i := 504) (by decide +kernel), List.mem_of_getElem? (i := 505) (by decide +kernel)⟩
theorem lw_p6 : lw_okq (⟨"GaugeColumns$Pad", "readDigit", "()Z"⟩, 5) := ⟨⟨by decide +kernel, by decide +kernel⟩, List.mem_of_getElem? (i := 151) (by decide +kernel), List.mem_of_getElem? (i := 511) (by decide +kernel), List.mem_of_getElem? (i := 512) (by decide +kernel)⟩
theorem lw_p7 : lw_okq (⟨"GaugeColumns$Pad", "readValue", "()Z"⟩, 5) := ⟨⟨by decide +kernel, by decide +kernel⟩, List.mem_of_getElem? (i := 151) (by decide +kernel), List.mem_of_getElem? (i := 515) (by decide +kernel), List.mem_of_getElem? (i := 516) (by decide +kernel)⟩
theorem lw_p8 : lw_okq (⟨"GaugeColumns", "carryOutOrder", "()I"⟩, 5) := ⟨⟨by decide +kernel, by decide +kernel⟩, List.mem_of_getElem? (i := 14) (by decide +kernel), List.mem_of_getElem? (i := 525) (by decide +kernel), List.mem_of_getElem? (i := 526) (by decide +kernel)⟩
theorem lw_p9 : lw_okq (⟨"GaugeColumnsModel", "record", "()V"⟩, 16) := ⟨⟨by decide +kernel, by decide +kernel⟩, List.mem_of_getElem? (i := 546) (by decide +kernel), List.mem_of_getElem? (i := 611) (by decide +kernel), List.mem_of_getElem? (i := 612) (by decide +kernel)⟩
theorem lw_p10 : lw_okq (⟨"GaugeColumnsModel", "sets", "(II)I"⟩, 16) := ⟨⟨by decide +kernel, by decide +kernel⟩, List.mem_of_getElem? (i := 546) (by decide +kernel), List.mem_of_getElem? (i := 618) (by decide +kernel), List.mem_of_getElem? (i := 619) (by decide +kernel)⟩
theorem lw_p11 : lw_okq (⟨"GaugeColumnsModel", "voidsAll", "()V"⟩, 16) := ⟨⟨by decide +kernel, by decide +kernel⟩, List.mem_of_getElem? (i := 546) (by decide +kernel), List.mem_of_getElem? (i := 622) (by decide +kernel), List.mem_of_getElem? (i := 623) (by decide +kernel)⟩
theorem lw_p12 : lw_okq (⟨"GaugeColumnsModel", "voids", "(I)V"⟩, 16) := ⟨⟨by decide +kernel, by decide +kernel⟩, List.mem_of_getElem? (i := 546) (by decide +kernel), List.mem_of_getElem? (i := 626) (by decide +kernel), List.mem_of_getElem? (i := 627) (by decide +kernel)⟩
theorem lw_p13 : lw_okq (⟨"GaugeColumnsModel", "setPart", "(III)V"⟩, 16) := ⟨⟨by decide +kernel, by decide +kernel⟩, List.mem_of_getElem? (i := 546) (by decide +kernel), List.mem_of_getElem? (i := 630) (by decide +kernel), List.mem_of_getElem? (i := 631) (by decide +kernel)⟩
theorem lw_p14 : lw_okq (⟨"GaugeColumnsModel", "handsGo", "()V"⟩, 16) := ⟨⟨by decide +kernel, by decide +kernel⟩, List.mem_of_getElem? (i := 546) (by decide +kernel), List.mem_of_getElem? (i := 634) (by decide +kernel), List.mem_of_getElem? (i := 635) (by decide +kernel)⟩
theorem lw_p15 : lw_okq (⟨"GaugeColumnsModel", "handGoes", "(I)V"⟩, 16) := ⟨⟨by decide +kernel, by decide +kernel⟩, List.mem_of_getElem? (i := 546) (by decide +kernel), List.mem_of_getElem? (i := 638) (by decide +kernel), List.mem_of_getElem? (i := 639) (by decide +kernel)⟩
def lw_privs_1 : List (MethodName × Nat) := [(⟨"GaugeColumns$Tester", "voidCertificates", "()V"⟩, 6), (⟨"GaugeColumns$Tester", "moveHands", "()I"⟩, 6), (⟨"GaugeColumns$Tester", "massToNext", "(I)I"⟩, 6), (⟨"GaugeColumns$Pad", "pass", "(I)Z"⟩, 5), (⟨"GaugeColumns$Pad", "signAt", "(I)I"⟩, 5), (⟨"GaugeColumns$Pad", "readNumber", "(I)Z"⟩, 5), (⟨"GaugeColumns$Pad", "readDigit", "()Z"⟩, 5), (⟨"GaugeColumns$Pad", "readValue", "()Z"⟩, 5), (⟨"GaugeColumns", "carryOutOrder", "()I"⟩, 5), (⟨"GaugeColumnsModel", "record", "()V"⟩, 16), (⟨"GaugeColumnsModel", "sets", "(II)I"⟩, 16), (⟨"GaugeColumnsModel", "voidsAll", "()V"⟩, 16), (⟨"GaugeColumnsModel", "voids", "(I)V"⟩, 16), (⟨"GaugeColumnsModel", "setPart", "(III)V"⟩, 16), (⟨"GaugeColumnsModel", "handsGo", "()V"⟩, 16), (⟨"GaugeColumnsModel", "handGoes", "(I)V"⟩, 16)]
theorem lw_r1 : ∀ q ∈ lw_privs_1, lw_okq q := List.forall_mem_cons.mpr ⟨lw_p0, List.forall_mem_cons.mpr ⟨lw_p1, List.forall_mem_cons.mpr ⟨lw_p2, List.forall_mem_cons.mpr ⟨lw_p3, List.forall_mem_cons.mpr ⟨lw_p4, List.forall_mem_cons.mpr ⟨lw_p5, List.forall_mem_cons.mpr ⟨lw_p6, List.forall_mem_cons.mpr ⟨lw_p7, List.forall_mem_cons.mpr ⟨lw_p8, List.forall_mem_cons.mpr ⟨lw_p9, List.forall_mem_cons.mpr ⟨lw_p10, List.forall_mem_cons.mpr ⟨lw_p11, List.forall_mem_cons.mpr ⟨lw_p12, List.forall_mem_cons.mpr ⟨lw_p13, List.forall_mem_cons.mpr ⟨lw_p14, List.forall_mem_cons.mpr ⟨lw_p15, fun _ h => absurd h List.not_mem_nil⟩⟩⟩⟩⟩⟩⟩⟩⟩⟩⟩⟩⟩⟩⟩⟩
theorem lw_p16 : lw_okq (⟨"GaugeColumnsModel", "part", "(II)I"⟩, 16) := ⟨⟨by decide +kernel, by decide +kernel⟩, List.mem_of_getElem? (i := 546) (by decide +kernel), List.mem_of_getElem? (i := 642) (by decide +kernel), List.mem_of_getElem? (i := 643) (by decide +kernel)⟩
theorem lw_p17 : lw_okq (⟨"GaugeColumnsModel", "pressureOf", "(I)I"⟩, 16) := ⟨⟨by decide +kernel, by decide +kernel⟩, List.mem_of_getElem? (i := 546) (by decide +kernel), List.mem_of_getElem? (i := 646) (by decide +kernel), List.mem_of_getElem? (i := 647) (by decide +kernel)⟩
theorem lw_p18 : lw_okq (⟨"GaugeColumnsModel", "massOf", "(I)I"⟩, 16) := ⟨⟨by decide +kernel, by decide +kernel⟩, List.mem_of_getElem? (i := 546) (by decide +kernel), List.mem_of_getElem? (i := 650) (by decide +kernel), List.mem_of_getElem? (i := 651) (by decide +kernel)⟩
theorem lw_p19 : lw_okq (⟨"GaugeColumnsModel", "pressureBy", "(II)I"⟩, 16) := ⟨⟨by decide +kernel, by decide +kernel⟩, List.mem_of_getElem? (i := 546) (by decide +kernel), List.mem_of_getElem? (i := 654) (by decide +kernel), List.mem_of_getElem? (i := 655) (by decide +kernel)⟩
theorem lw_p20 : lw_okq (⟨"GaugeColumnsModel", "weightOf", "(II)I"⟩, 16) := ⟨⟨by decide +kernel, by decide +kernel⟩, List.mem_of_getElem? (i := 546) (by decide +kernel), List.mem_of_getElem? (i := 658) (by decide +kernel), List.mem_of_getElem? (i := 659) (by decide +kernel)⟩
theorem lw_p21 : lw_okq (⟨"GaugeColumnsModel", "whyNoRing", "(I)I"⟩, 16) := ⟨⟨by decide +kernel, by decide +kernel⟩, List.mem_of_getElem? (i := 546) (by decide +kernel), List.mem_of_getElem? (i := 679) (by decide +kernel), List.mem_of_getElem? (i := 680) (by decide +kernel)⟩
theorem lw_p22 : lw_okq (⟨"GaugeColumnsModel", "comes", "(I)I"⟩, 16) := ⟨⟨by decide +kernel, by decide +kernel⟩, List.mem_of_getElem? (i := 546) (by decide +kernel), List.mem_of_getElem? (i := 683) (by decide +kernel), List.mem_of_getElem? (i := 684) (by decide +kernel)⟩
theorem lw_p23 : lw_okq (⟨"GaugeColumnsModel", "whyNotMoved", "(IZ)I"⟩, 16) := ⟨⟨by decide +kernel, by decide +kernel⟩, List.mem_of_getElem? (i := 546) (by decide +kernel), List.mem_of_getElem? (i := 695) (by decide +kernel), List.mem_of_getElem? (i := 696) (by decide +kernel)⟩
theorem lw_p24 : lw_okq (⟨"GaugeColumnsModel", "isRing", "(I)Z"⟩, 16) := ⟨⟨by decide +kernel, by decide +kernel⟩, List.mem_of_getElem? (i := 546) (by decide +kernel), List.mem_of_getElem? (i := 699) (by decide +kernel), List.mem_of_getElem? (i := 700) (by decide +kernel)⟩
theorem lw_p25 : lw_okq (⟨"GaugeColumnsModel", "isStacked", "(I)Z"⟩, 16) := ⟨⟨by decide +kernel, by decide +kernel⟩, List.mem_of_getElem? (i := 546) (by decide +kernel), List.mem_of_getElem? (i := 703) (by decide +kernel), List.mem_of_getElem? (i := 704) (by decide +kernel)⟩
theorem lw_p26 : lw_okq (⟨"GaugeColumnsModel", "isMoved", "(I)I"⟩, 16) := ⟨⟨by decide +kernel, by decide +kernel⟩, List.mem_of_getElem? (i := 546) (by decide +kernel), List.mem_of_getElem? (i := 707) (by decide +kernel), List.mem_of_getElem? (i := 708) (by decide +kernel)⟩
theorem lw_p27 : lw_okq (⟨"GaugeColumnsModel", "whyNoGauge", "(III)I"⟩, 16) := ⟨⟨by decide +kernel, by decide +kernel⟩, List.mem_of_getElem? (i := 546) (by decide +kernel), List.mem_of_getElem? (i := 719) (by decide +kernel), List.mem_of_getElem? (i := 720) (by decide +kernel)⟩
theorem lw_p28 : lw_okq (⟨"GaugeColumnsModel", "comesGauge", "(III)I"⟩, 16) := ⟨⟨by decide +kernel, by decide +kernel⟩, List.mem_of_getElem? (i := 546) (by decide +kernel), List.mem_of_getElem? (i := 726) (by decide +kernel), List.mem_of_getElem? (i := 727) (by decide +kernel)⟩
theorem lw_p29 : lw_okq (⟨"GaugeColumnsModel", "isGauge", "(I)Z"⟩, 16) := ⟨⟨by decide +kernel, by decide +kernel⟩, List.mem_of_getElem? (i := 546) (by decide +kernel), List.mem_of_getElem? (i := 734) (by decide +kernel), List.mem_of_getElem? (i := 735) (by decide +kernel)⟩
theorem lw_p30 : lw_okq (⟨"GaugeColumnsModel", "whyNotCertified", "(I)I"⟩, 16) := ⟨⟨by decide +kernel, by decide +kernel⟩, List.mem_of_getElem? (i := 546) (by decide +kernel), List.mem_of_getElem? (i := 742) (by decide +kernel), List.mem_of_getElem? (i := 743) (by decide +kernel)⟩
theorem lw_p31 : lw_okq (⟨"GaugeColumnsModel", "certifies", "(I)I"⟩, 16) := ⟨⟨by decide +kernel, by decide +kernel⟩, List.mem_of_getElem? (i := 546) (by decide +kernel), List.mem_of_getElem? (i := 746) (by decide +kernel), List.mem_of_getElem? (i := 747) (by decide +kernel)⟩
def lw_privs_2 : List (MethodName × Nat) := [(⟨"GaugeColumnsModel", "part", "(II)I"⟩, 16), (⟨"GaugeColumnsModel", "pressureOf", "(I)I"⟩, 16), (⟨"GaugeColumnsModel", "massOf", "(I)I"⟩, 16), (⟨"GaugeColumnsModel", "pressureBy", "(II)I"⟩, 16), (⟨"GaugeColumnsModel", "weightOf", "(II)I"⟩, 16), (⟨"GaugeColumnsModel", "whyNoRing", "(I)I"⟩, 16), (⟨"GaugeColumnsModel", "comes", "(I)I"⟩, 16), (⟨"GaugeColumnsModel", "whyNotMoved", "(IZ)I"⟩, 16), (⟨"GaugeColumnsModel", "isRing", "(I)Z"⟩, 16), (⟨"GaugeColumnsModel", "isStacked", "(I)Z"⟩, 16), (⟨"GaugeColumnsModel", "isMoved", "(I)I"⟩, 16), (⟨"GaugeColumnsModel", "whyNoGauge", "(III)I"⟩, 16), (⟨"GaugeColumnsModel", "comesGauge", "(III)I"⟩, 16), (⟨"GaugeColumnsModel", "isGauge", "(I)Z"⟩, 16), (⟨"GaugeColumnsModel", "whyNotCertified", "(I)I"⟩, 16), (⟨"GaugeColumnsModel", "certifies", "(I)I"⟩, 16)]
theorem lw_r2 : ∀ q ∈ lw_privs_2, lw_okq q := List.forall_mem_cons.mpr ⟨lw_p16, List.forall_mem_cons.mpr ⟨lw_p17, List.forall_mem_cons.mpr ⟨lw_p18, List.forall_mem_cons.mpr ⟨lw_p19, List.forall_mem_cons.mpr ⟨lw_p20, List.forall_mem_cons.mpr ⟨lw_p21, List.forall_mem_cons.mpr ⟨lw_p22, List.forall_mem_cons.mpr ⟨lw_p23, List.forall_mem_cons.mpr ⟨lw_p24, List.forall_mem_cons.mpr ⟨lw_p25, List.forall_mem_cons.mpr ⟨lw_p26, List.forall_mem_cons.mpr ⟨lw_p27, List.forall_mem_cons.mpr ⟨lw_p28, List.forall_mem_cons.mpr ⟨lw_p29, List.forall_mem_cons.mpr ⟨lw_p30, List.forall_mem_cons.mpr ⟨lw_p31, fun _ h => absurd h List.not_mem_nil⟩⟩⟩⟩⟩⟩⟩⟩⟩⟩⟩⟩⟩⟩⟩⟩
theorem lw_p32 : lw_okq (⟨"GaugeColumnsModel", "tests", "(II)V"⟩, 16) := ⟨⟨by decide +kernel, by decide +kernel⟩, List.mem_of_getElem? (i := 546) (by decide +kernel), List.mem_of_getElem? (i := 750) (by decide +kernel), List.mem_of_getElem? (i := 751) (by decide +kernel)⟩
theorem lw_p33 : lw_okq (⟨"GaugeColumnsModel", "findOrder", "()V"⟩, 16) := ⟨⟨by decide +kernel, by decide +kernel⟩, List.mem_of_getElem? (i := 546) (by decide +kernel), List.mem_of_getElem? (i := 754) (by decide +kernel), List.mem_of_getElem? (i := 755) (by decide +kernel)⟩
theorem lw_p34 : lw_okq (⟨"GaugeColumnsModel", "placeOf", "(I)I"⟩, 16) := ⟨⟨by decide +kernel, by decide +kernel⟩, List.mem_of_getElem? (i := 546) (by decide +kernel), List.mem_of_getElem? (i := 765) (by decide +kernel), List.mem_of_getElem? (i := 766) (by decide +kernel)⟩
theorem lw_p35 : lw_okq (⟨"GaugeColumnsModel", "certificates", "()I"⟩, 16) := ⟨⟨by decide +kernel, by decide +kernel⟩, List.mem_of_getElem? (i := 546) (by decide +kernel), List.mem_of_getElem? (i := 781) (by decide +kernel), List.mem_of_getElem? (i := 782) (by decide +kernel)⟩
theorem lw_p36 : lw_okq (⟨"GaugeColumnsModel", "findFault", "()I"⟩, 16) := ⟨⟨by decide +kernel, by decide +kernel⟩, List.mem_of_getElem? (i := 546) (by decide +kernel), List.mem_of_getElem? (i := 821) (by decide +kernel), List.mem_of_getElem? (i := 822) (by decide +kernel)⟩
theorem lw_p37 : lw_okq (⟨"GaugeColumnsModel", "readsOrder", "()Z"⟩, 16) := ⟨⟨by decide +kernel, by decide +kernel⟩, List.mem_of_getElem? (i := 546) (by decide +kernel), List.mem_of_getElem? (i := 825) (by decide +kernel), List.mem_of_getElem? (i := 826) (by decide +kernel)⟩
theorem lw_p38 : lw_okq (⟨"GaugeColumnsModel", "character", "(I)I"⟩, 16) := ⟨⟨by decide +kernel, by decide +kernel⟩, List.mem_of_getElem? (i := 546) (by decide +kernel), List.mem_of_getElem? (i := 829) (by decide +kernel), List.mem_of_getElem? (i := 830) (by decide +kernel)⟩
theorem lw_p39 : lw_okq (⟨"GaugeColumnsModel", "takeNumber", "()I"⟩, 16) := ⟨⟨by decide +kernel, by decide +kernel⟩, List.mem_of_getElem? (i := 546) (by decide +kernel), List.mem_of_getElem? (i := 833) (by decide +kernel), List.mem_of_getElem? (i := 834) (by decide +kernel)⟩
theorem lw_p40 : lw_okq (⟨"GaugeColumnsModel", "takeDigit", "()I"⟩, 16) := ⟨⟨by decide +kernel, by decide +kernel⟩, List.mem_of_getElem? (i := 546) (by decide +kernel), List.mem_of_getElem? (i := 837) (by decide +kernel), List.mem_of_getElem? (i := 838) (by decide +kernel)⟩
theorem lw_p41 : lw_okq (⟨"GaugeColumnsModel", "readsGauge", "()Z"⟩, 16) := ⟨⟨by decide +kernel, by decide +kernel⟩, List.mem_of_getElem? (i := 546) (by decide +kernel), List.mem_of_getElem? (i := 841) (by decide +kernel), List.mem_of_getElem? (i := 842) (by decide +kernel)⟩
theorem lw_p42 : lw_okq (⟨"GaugeColumnsModel", "isNext", "(I)Z"⟩, 16) := ⟨⟨by decide +kernel, by decide +kernel⟩, List.mem_of_getElem? (i := 546) (by decide +kernel), List.mem_of_getElem? (i := 845) (by decide +kernel), List.mem_of_getElem? (i := 846) (by decide +kernel)⟩
theorem lw_p43 : lw_okq (⟨"GaugeColumnsModel", "whyNotDone", "()I"⟩, 16) := ⟨⟨by decide +kernel, by decide +kernel⟩, List.mem_of_getElem? (i := 546) (by decide +kernel), List.mem_of_getElem? (i := 853) (by decide +kernel), List.mem_of_getElem? (i := 854) (by decide +kernel)⟩
theorem lw_p44 : lw_okq (⟨"GaugeColumnsModel", "does", "()V"⟩, 16) := ⟨⟨by decide +kernel, by decide +kernel⟩, List.mem_of_getElem? (i := 546) (by decide +kernel), List.mem_of_getElem? (i := 857) (by decide +kernel), List.mem_of_getElem? (i := 858) (by decide +kernel)⟩
def lw_privs_3 : List (MethodName × Nat) := [(⟨"GaugeColumnsModel", "tests", "(II)V"⟩, 16), (⟨"GaugeColumnsModel", "findOrder", "()V"⟩, 16), (⟨"GaugeColumnsModel", "placeOf", "(I)I"⟩, 16), (⟨"GaugeColumnsModel", "certificates", "()I"⟩, 16), (⟨"GaugeColumnsModel", "findFault", "()I"⟩, 16), (⟨"GaugeColumnsModel", "readsOrder", "()Z"⟩, 16), (⟨"GaugeColumnsModel", "character", "(I)I"⟩, 16), (⟨"GaugeColumnsModel", "takeNumber", "()I"⟩, 16), (⟨"GaugeColumnsModel", "takeDigit", "()I"⟩, 16), (⟨"GaugeColumnsModel", "readsGauge", "()Z"⟩, 16), (⟨"GaugeColumnsModel", "isNext", "(I)Z"⟩, 16), (⟨"GaugeColumnsModel", "whyNotDone", "()I"⟩, 16), (⟨"GaugeColumnsModel", "does", "()V"⟩, 16)]
theorem lw_r3 : ∀ q ∈ lw_privs_3, lw_okq q := List.forall_mem_cons.mpr ⟨lw_p32, List.forall_mem_cons.mpr ⟨lw_p33, List.forall_mem_cons.mpr ⟨lw_p34, List.forall_mem_cons.mpr ⟨lw_p35, List.forall_mem_cons.mpr ⟨lw_p36, List.forall_mem_cons.mpr ⟨lw_p37, List.forall_mem_cons.mpr ⟨lw_p38, List.forall_mem_cons.mpr ⟨lw_p39, List.forall_mem_cons.mpr ⟨lw_p40, List.forall_mem_cons.mpr ⟨lw_p41, List.forall_mem_cons.mpr ⟨lw_p42, List.forall_mem_cons.mpr ⟨lw_p43, List.forall_mem_cons.mpr ⟨lw_p44, fun _ h => absurd h List.not_mem_nil⟩⟩⟩⟩⟩⟩⟩⟩⟩⟩⟩⟩⟩
def lw_privs : List (MethodName × Nat) := lw_privs_1 ++ (lw_privs_2 ++ (lw_privs_3))
def lw_tbl : List Cond := k2_sels lw_privs ++ tables_1
theorem lw_privs_ok : ∀ q ∈ lw_privs, lw_okq q := by
  show ∀ q ∈ lw_privs_1 ++ (lw_privs_2 ++ (lw_privs_3)), lw_okq q
  exact List.forall_mem_append.mpr ⟨lw_r1, List.forall_mem_append.mpr ⟨lw_r2, lw_r3⟩⟩
-- ===== end of PART A; then your names; then what follows =====
/-! ===== BEGIN words of one list among another's, by their places ===== -/
theorem goodIn_r {big : List Cond} (ws : List Cond) (ps : List Nat) (hp : ws = ps.filterMap (fun i => big[i]?)) (h : ws.all goodWord = true) : GoodIn big ws := by
  intro w hw
  have h1 := List.all_eq_true.mp h w hw
  rw [hp] at hw
  obtain ⟨i, -, hi⟩ := List.mem_filterMap.mp hw
  have hm : w ∈ big := by first | exact List.mem_of_getElem? hi | exact List.getElem?_mem hi
  exact ⟨hm, good_of_word h1⟩
theorem goodIn_app {big a b : List Cond} (ha : GoodIn big a) (hb : GoodIn big b) : GoodIn big (a ++ b) := fun w h => (List.mem_append.mp h).elim (ha w) (hb w)
theorem goodIn_ca {big a b : List Cond} {c : Cond} (ha : GoodIn big (c :: a)) (hb : GoodIn big b) : GoodIn big (c :: (a ++ b)) := fun w h => (List.mem_cons.mp h).elim (fun e => ha w (List.mem_cons.mpr (Or.inl e))) (fun h => (List.mem_append.mp h).elim (fun h => ha w (List.mem_cons.mpr (Or.inr h))) (hb w))
theorem goodIn_sub {big ws : List Cond} (hm : ∀ w ∈ ws, w ∈ big) (h : ws.all goodWord = true) : GoodIn big ws := fun w hw => ⟨hm w hw, good_of_word (List.all_eq_true.mp h w hw)⟩
/-! ===== END ===== -/

/-! ===== BEGIN printed: names, fields, word lists, decode rows ===== -/
def RX0 : String := "GaugeColumns$Certificate"
def TX0 : u_T := fun k => match k with
  | 0 => ("GaugeColumns$Certificate", "readings", "[I", true)
  | 1 => ("GaugeColumns$Certificate", "greatest", "I", true)
  | _ => ("GaugeColumns$Certificate", "air", "I", true)
def tyX0 : Nat → FieldType := fun k => match k with
  | 0 => .array .int
  | 1 => .int
  | _ => .int
abbrev wsX00 : List Cond := u_ws RX0 TX0 3
theorem nmX0 : ∀ a, a < 3 → ∀ b, b < 3 → a ≠ b → (TX0 a).2.1 ≠ (TX0 b).2.1 := by decide +kernel
theorem tyX0_ok : ∀ k, k < 3 → parseFieldDescriptor (TX0 k).2.2.1 = some (tyX0 k) := by decide +kernel
abbrev cX0_init : ByteArray := prog_2_method_1_code
def yX0_init : MethodName := ⟨RX0, "<init>", "(LGaugeColumns$Trial;I)V"⟩
def RX1 : String := "GaugeColumns$Gauge"
def TX1 : u_T := fun k => match k with
  | 0 => ("GaugeColumns$Gauge", "error", "I", false)
  | 1 => ("GaugeColumns$Gauge", "play", "I", false)
  | 2 => ("GaugeColumns$Gauge", "step", "I", false)
  | 3 => ("GaugeColumns$Gauge", "hand", "I", false)
  | _ => ("GaugeColumns$Gauge", "certificate", "LGaugeColumns$Certificate;", false)
def tyX1 : Nat → FieldType := fun k => match k with
  | 0 => .int
  | 1 => .int
  | 2 => .int
  | 3 => .int
  | _ => .object "GaugeColumns$Certificate"
abbrev wsX10 : List Cond := u_ws RX1 TX1 5
theorem nmX1 : ∀ a, a < 5 → ∀ b, b < 5 → a ≠ b → (TX1 a).2.1 ≠ (TX1 b).2.1 := by decide +kernel
theorem tyX1_ok : ∀ k, k < 5 → parseFieldDescriptor (TX1 k).2.2.1 = some (tyX1 k) := by decide +kernel
abbrev cX1_init : ByteArray := prog_3_method_1_code
def yX1_init : MethodName := ⟨RX1, "<init>", "()V"⟩
abbrev cX1_begin : ByteArray := prog_3_method_2_code
def yX1_begin : MethodName := ⟨RX1, "begin", "(III)V"⟩
abbrev cX1_copyFrom : ByteArray := prog_3_method_3_code
def yX1_copyFrom : MethodName := ⟨RX1, "copyFrom", "(LGaugeColumns$Gauge;)V"⟩
abbrev cX1_follow : ByteArray := prog_3_method_4_code
def yX1_follow : MethodName := ⟨RX1, "follow", "(I)V"⟩
abbrev cX1_shown : ByteArray := prog_3_method_5_code
def yX1_shown : MethodName := ⟨RX1, "shown", "()I"⟩
abbrev cX1_tell : ByteArray := prog_3_method_6_code
def yX1_tell : MethodName := ⟨RX1, "tell", "(I)I"⟩
def RX2 : String := "GaugeColumns$History"
def TX2 : u_T := fun k => match k with
  | 0 => ("GaugeColumns$History", "states", "[LGaugeColumns$Tester;", true)
  | 1 => ("GaugeColumns$History", "next", "I", false)
  | _ => ("GaugeColumns$History", "kept", "I", false)
def tyX2 : Nat → FieldType := fun k => match k with
  | 0 => .array (.object "GaugeColumns$Tester")
  | 1 => .int
  | _ => .int
abbrev wsX20 : List Cond := u_ws RX2 TX2 3
theorem nmX2 : ∀ a, a < 3 → ∀ b, b < 3 → a ≠ b → (TX2 a).2.1 ≠ (TX2 b).2.1 := by decide +kernel
theorem tyX2_ok : ∀ k, k < 3 → parseFieldDescriptor (TX2 k).2.2.1 = some (tyX2 k) := by decide +kernel
abbrev cX2_init : ByteArray := prog_4_method_1_code
def yX2_init : MethodName := ⟨RX2, "<init>", "()V"⟩
abbrev cX2_remember : ByteArray := prog_4_method_2_code
def yX2_remember : MethodName := ⟨RX2, "remember", "(LGaugeColumns$Tester;)V"⟩
abbrev cX2_settle : ByteArray := prog_4_method_3_code
def yX2_settle : MethodName := ⟨RX2, "settle", "(I)I"⟩
abbrev cX2_stepBack : ByteArray := prog_4_method_4_code
def yX2_stepBack : MethodName := ⟨RX2, "stepBack", "(LGaugeColumns$Tester;)I"⟩
def RX3 : String := "GaugeColumns$Pad"
def TX3 : u_T := fun k => match k with
  | 0 => ("GaugeColumns$Pad", "numbers", "[I", true)
  | 1 => ("GaugeColumns$Pad", "kind", "I", false)
  | 2 => ("GaugeColumns$Pad", "length", "I", false)
  | 3 => ("GaugeColumns$Pad", "signs", "[C", true)
  | _ => ("GaugeColumns$Pad", "cursor", "I", false)
def tyX3 : Nat → FieldType := fun k => match k with
  | 0 => .array .int
  | 1 => .int
  | 2 => .int
  | 3 => .array .char
  | _ => .int
abbrev wsX30 : List Cond := u_ws RX3 TX3 5
theorem nmX3 : ∀ a, a < 5 → ∀ b, b < 5 → a ≠ b → (TX3 a).2.1 ≠ (TX3 b).2.1 := by decide +kernel
theorem tyX3_ok : ∀ k, k < 5 → parseFieldDescriptor (TX3 k).2.2.1 = some (tyX3 k) := by decide +kernel
abbrev cX3_init : ByteArray := prog_5_method_1_code
def yX3_init : MethodName := ⟨RX3, "<init>", "()V"⟩
abbrev cX3_append : ByteArray := prog_5_method_2_code
def yX3_append : MethodName := ⟨RX3, "append", "(J)I"⟩
abbrev cX3_howMany : ByteArray := prog_5_method_3_code
def yX3_howMany : MethodName := ⟨RX3, "howMany", "(J)I"⟩
abbrev cX3_clear : ByteArray := prog_5_method_4_code
def yX3_clear : MethodName := ⟨RX3, "clear", "()I"⟩
abbrev cX3_findFault : ByteArray := prog_5_method_5_code
def yX3_findFault : MethodName := ⟨RX3, "findFault", "()I"⟩
abbrev cX3_rewind : ByteArray := prog_5_method_6_code
def yX3_rewind : MethodName := ⟨RX3, "rewind", "()V"⟩
abbrev cX3_nextOrder : ByteArray := prog_5_method_7_code
def yX3_nextOrder : MethodName := ⟨RX3, "nextOrder", "()Z"⟩
abbrev cX3_readValue : ByteArray := prog_5_method_8_code
def yX3_readValue : MethodName := ⟨RX3, "readValue", "()Z"⟩
abbrev cX3_readNumber : ByteArray := prog_5_method_9_code
def yX3_readNumber : MethodName := ⟨RX3, "readNumber", "(I)Z"⟩
abbrev cX3_readDigit : ByteArray := prog_5_method_10_code
def yX3_readDigit : MethodName := ⟨RX3, "readDigit", "()Z"⟩
abbrev cX3_pass : ByteArray := prog_5_method_11_code
def yX3_pass : MethodName := ⟨RX3, "pass", "(I)Z"⟩
abbrev cX3_signAt : ByteArray := prog_5_method_12_code
def yX3_signAt : MethodName := ⟨RX3, "signAt", "(I)I"⟩
abbrev cX3_isDigit : ByteArray := prog_5_method_13_code
def yX3_isDigit : MethodName := ⟨RX3, "isDigit", "(I)Z"⟩
def RX4 : String := "GaugeColumns$Tester"
def TX4 : u_T := fun k => match k with
  | 0 => ("GaugeColumns$Tester", "settings", "[I", true)
  | 1 => ("GaugeColumns$Tester", "grams", "[I", true)
  | 2 => ("GaugeColumns$Tester", "gauges", "[LGaugeColumns$Gauge;", true)
  | 3 => ("GaugeColumns$Tester", "ringCount", "I", false)
  | 4 => ("GaugeColumns$Tester", "column", "I", false)
  | _ => ("GaugeColumns$Tester", "gaugeCount", "I", false)
def tyX4 : Nat → FieldType := fun k => match k with
  | 0 => .array .int
  | 1 => .array .int
  | 2 => .array (.object "GaugeColumns$Gauge")
  | 3 => .int
  | 4 => .int
  | _ => .int
abbrev wsX40 : List Cond := u_ws RX4 TX4 6
theorem nmX4 : ∀ a, a < 6 → ∀ b, b < 6 → a ≠ b → (TX4 a).2.1 ≠ (TX4 b).2.1 := by decide +kernel
theorem tyX4_ok : ∀ k, k < 6 → parseFieldDescriptor (TX4 k).2.2.1 = some (tyX4 k) := by decide +kernel
abbrev cX4_init : ByteArray := prog_6_method_1_code
def yX4_init : MethodName := ⟨RX4, "<init>", "()V"⟩
abbrev cX4_copyFrom : ByteArray := prog_6_method_2_code
def yX4_copyFrom : MethodName := ⟨RX4, "copyFrom", "(LGaugeColumns$Tester;)V"⟩
abbrev cX4_change : ByteArray := prog_6_method_3_code
def yX4_change : MethodName := ⟨RX4, "change", "(II)I"⟩
abbrev cX4_addRing : ByteArray := prog_6_method_4_code
def yX4_addRing : MethodName := ⟨RX4, "addRing", "(I)I"⟩
abbrev cX4_dropRing : ByteArray := prog_6_method_5_code
def yX4_dropRing : MethodName := ⟨RX4, "dropRing", "()I"⟩
abbrev cX4_putOn : ByteArray := prog_6_method_6_code
def yX4_putOn : MethodName := ⟨RX4, "putOn", "(I)I"⟩
abbrev cX4_takeOff : ByteArray := prog_6_method_7_code
def yX4_takeOff : MethodName := ⟨RX4, "takeOff", "(I)I"⟩
abbrev cX4_addGauge : ByteArray := prog_6_method_8_code
def yX4_addGauge : MethodName := ⟨RX4, "addGauge", "(III)I"⟩
abbrev cX4_adjust : ByteArray := prog_6_method_9_code
def yX4_adjust : MethodName := ⟨RX4, "adjust", "(II)I"⟩
abbrev cX4_certifyBy : ByteArray := prog_6_method_10_code
def yX4_certifyBy : MethodName := ⟨RX4, "certifyBy", "(LGaugeColumns$Trial;I)I"⟩
abbrev cX4_hasRing : ByteArray := prog_6_method_11_code
def yX4_hasRing : MethodName := ⟨RX4, "hasRing", "(I)Z"⟩
abbrev cX4_isStacked : ByteArray := prog_6_method_12_code
def yX4_isStacked : MethodName := ⟨RX4, "isStacked", "(I)Z"⟩
abbrev cX4_placeOf : ByteArray := prog_6_method_13_code
def yX4_placeOf : MethodName := ⟨RX4, "placeOf", "(I)I"⟩
abbrev cX4_gaugeAt : ByteArray := prog_6_method_14_code
def yX4_gaugeAt : MethodName := ⟨RX4, "gaugeAt", "(I)LGaugeColumns$Gauge;"⟩
abbrev cX4_countCertificates : ByteArray := prog_6_method_15_code
def yX4_countCertificates : MethodName := ⟨RX4, "countCertificates", "()I"⟩
abbrev cX4_massOf : ByteArray := prog_6_method_16_code
def yX4_massOf : MethodName := ⟨RX4, "massOf", "(I)I"⟩
abbrev cX4_pressureOf : ByteArray := prog_6_method_17_code
def yX4_pressureOf : MethodName := ⟨RX4, "pressureOf", "(II)I"⟩
abbrev cX4_columnPressure : ByteArray := prog_6_method_18_code
def yX4_columnPressure : MethodName := ⟨RX4, "columnPressure", "()I"⟩
abbrev cX4_nearestTo : ByteArray := prog_6_method_19_code
def yX4_nearestTo : MethodName := ⟨RX4, "nearestTo", "(I)I"⟩
abbrev cX4_massToNext : ByteArray := prog_6_method_20_code
def yX4_massToNext : MethodName := ⟨RX4, "massToNext", "(I)I"⟩
abbrev cX4_moveHands : ByteArray := prog_6_method_21_code
def yX4_moveHands : MethodName := ⟨RX4, "moveHands", "()I"⟩
abbrev cX4_voidCertificates : ByteArray := prog_6_method_22_code
def yX4_voidCertificates : MethodName := ⟨RX4, "voidCertificates", "()V"⟩
def RX5 : String := "GaugeColumns$Trial"
def TX5 : u_T := fun k => match k with
  | 0 => ("GaugeColumns$Trial", "readings", "[I", true)
  | 1 => ("GaugeColumns$Trial", "length", "I", false)
  | 2 => ("GaugeColumns$Trial", "greatest", "I", false)
  | 3 => ("GaugeColumns$Trial", "worst", "I", false)
  | 4 => ("GaugeColumns$Trial", "gauge", "LGaugeColumns$Gauge;", true)
  | 5 => ("GaugeColumns$Trial", "sorted", "[I", true)
  | _ => ("GaugeColumns$Trial", "pressures", "[I", true)
def tyX5 : Nat → FieldType := fun k => match k with
  | 0 => .array .int
  | 1 => .int
  | 2 => .int
  | 3 => .int
  | 4 => .object "GaugeColumns$Gauge"
  | 5 => .array .int
  | _ => .array .int
abbrev wsX50 : List Cond := u_ws RX5 TX5 7
theorem nmX5 : ∀ a, a < 7 → ∀ b, b < 7 → a ≠ b → (TX5 a).2.1 ≠ (TX5 b).2.1 := by decide +kernel
theorem tyX5_ok : ∀ k, k < 7 → parseFieldDescriptor (TX5 k).2.2.1 = some (tyX5 k) := by decide +kernel
abbrev cX5_init : ByteArray := prog_7_method_1_code
def yX5_init : MethodName := ⟨RX5, "<init>", "()V"⟩
abbrev cX5_prepare : ByteArray := prog_7_method_2_code
def yX5_prepare : MethodName := ⟨RX5, "prepare", "(LGaugeColumns$Tester;)V"⟩
abbrev cX5_run : ByteArray := prog_7_method_3_code
def yX5_run : MethodName := ⟨RX5, "run", "(LGaugeColumns$Gauge;I)V"⟩
def RX6 : String := "GaugeColumns"
def TX6 : u_T := fun k => match k with
  | 0 => ("GaugeColumns", "now", "LGaugeColumns$Tester;", true)
  | 1 => ("GaugeColumns", "history", "LGaugeColumns$History;", true)
  | 2 => ("GaugeColumns", "slots", "[LGaugeColumns$Tester;", true)
  | 3 => ("GaugeColumns", "trial", "LGaugeColumns$Trial;", true)
  | _ => ("GaugeColumns", "pad", "LGaugeColumns$Pad;", true)
def tyX6 : Nat → FieldType := fun k => match k with
  | 0 => .object "GaugeColumns$Tester"
  | 1 => .object "GaugeColumns$History"
  | 2 => .array (.object "GaugeColumns$Tester")
  | 3 => .object "GaugeColumns$Trial"
  | _ => .object "GaugeColumns$Pad"
abbrev wsX60 : List Cond := u_ws RX6 TX6 5
theorem nmX6 : ∀ a, a < 5 → ∀ b, b < 5 → a ≠ b → (TX6 a).2.1 ≠ (TX6 b).2.1 := by decide +kernel
theorem tyX6_ok : ∀ k, k < 5 → parseFieldDescriptor (TX6 k).2.2.1 = some (tyX6 k) := by decide +kernel
abbrev cX6_init : ByteArray := prog_1_method_1_code
def yX6_init : MethodName := ⟨RX6, "<init>", "()V"⟩
abbrev cX6_set : ByteArray := prog_1_method_2_code
def yX6_set : MethodName := ⟨RX6, "set", "(II)I"⟩
abbrev cX6_ring : ByteArray := prog_1_method_3_code
def yX6_ring : MethodName := ⟨RX6, "ring", "(I)I"⟩
abbrev cX6_lose : ByteArray := prog_1_method_4_code
def yX6_lose : MethodName := ⟨RX6, "lose", "()I"⟩
abbrev cX6_stack : ByteArray := prog_1_method_5_code
def yX6_stack : MethodName := ⟨RX6, "stack", "(I)I"⟩
abbrev cX6_take : ByteArray := prog_1_method_6_code
def yX6_take : MethodName := ⟨RX6, "take", "(I)I"⟩
abbrev cX6_gauge : ByteArray := prog_1_method_7_code
def yX6_gauge : MethodName := ⟨RX6, "gauge", "(III)I"⟩
abbrev cX6_tune : ByteArray := prog_1_method_8_code
def yX6_tune : MethodName := ⟨RX6, "tune", "(II)I"⟩
abbrev cX6_certify : ByteArray := prog_1_method_9_code
def yX6_certify : MethodName := ⟨RX6, "certify", "(I)I"⟩
abbrev cX6_ofRing : ByteArray := prog_1_method_10_code
def yX6_ofRing : MethodName := ⟨RX6, "ofRing", "(II)I"⟩
abbrev cX6_ofGauge : ByteArray := prog_1_method_11_code
def yX6_ofGauge : MethodName := ⟨RX6, "ofGauge", "(II)I"⟩
abbrev cX6_reading : ByteArray := prog_1_method_12_code
def yX6_reading : MethodName := ⟨RX6, "reading", "(II)I"⟩
abbrev cX6_count : ByteArray := prog_1_method_13_code
def yX6_count : MethodName := ⟨RX6, "count", "(I)I"⟩
abbrev cX6_pressure : ByteArray := prog_1_method_14_code
def yX6_pressure : MethodName := ⟨RX6, "pressure", "(I)I"⟩
abbrev cX6_nearest : ByteArray := prog_1_method_15_code
def yX6_nearest : MethodName := ⟨RX6, "nearest", "(II)I"⟩
abbrev cX6_test : ByteArray := prog_1_method_16_code
def yX6_test : MethodName := ⟨RX6, "test", "(II)I"⟩
abbrev cX6_bestError : ByteArray := prog_1_method_17_code
def yX6_bestError : MethodName := ⟨RX6, "bestError", "(II)I"⟩
abbrev cX6_airCosts : ByteArray := prog_1_method_18_code
def yX6_airCosts : MethodName := ⟨RX6, "airCosts", "(I)I"⟩
abbrev cX6_put : ByteArray := prog_1_method_19_code
def yX6_put : MethodName := ⟨RX6, "put", "(J)I"⟩
abbrev cX6_wipe : ByteArray := prog_1_method_20_code
def yX6_wipe : MethodName := ⟨RX6, "wipe", "()I"⟩
abbrev cX6_fault : ByteArray := prog_1_method_21_code
def yX6_fault : MethodName := ⟨RX6, "fault", "()I"⟩
abbrev cX6_carryOut : ByteArray := prog_1_method_22_code
def yX6_carryOut : MethodName := ⟨RX6, "carryOut", "()I"⟩
abbrev cX6_carryOutOrder : ByteArray := prog_1_method_23_code
def yX6_carryOutOrder : MethodName := ⟨RX6, "carryOutOrder", "()I"⟩
abbrev cX6_undo : ByteArray := prog_1_method_24_code
def yX6_undo : MethodName := ⟨RX6, "undo", "()I"⟩
abbrev cX6_save : ByteArray := prog_1_method_25_code
def yX6_save : MethodName := ⟨RX6, "save", "(I)I"⟩
abbrev cX6_restore : ByteArray := prog_1_method_26_code
def yX6_restore : MethodName := ⟨RX6, "restore", "(I)I"⟩
abbrev cX6_dividedDown : ByteArray := prog_1_method_27_code
def yX6_dividedDown : MethodName := ⟨RX6, "dividedDown", "(II)I"⟩
abbrev cX6_dividedRounded : ByteArray := prog_1_method_28_code
def yX6_dividedRounded : MethodName := ⟨RX6, "dividedRounded", "(II)I"⟩
abbrev cX6_weightOf : ByteArray := prog_1_method_29_code
def yX6_weightOf : MethodName := ⟨RX6, "weightOf", "(II)I"⟩
def RX7 : String := "GaugeColumnsModel"
def TX7 : u_T := fun k => match k with
  | 0 => ("GaugeColumnsModel", "state", "[I", true)
  | 1 => ("GaugeColumnsModel", "history", "[I", true)
  | 2 => ("GaugeColumnsModel", "recorded", "I", false)
  | 3 => ("GaugeColumnsModel", "slots", "[I", true)
  | 4 => ("GaugeColumnsModel", "isSaved", "[I", true)
  | 5 => ("GaugeColumnsModel", "pad", "[I", true)
  | 6 => ("GaugeColumnsModel", "padLength", "I", false)
  | 7 => ("GaugeColumnsModel", "order", "[I", true)
  | 8 => ("GaugeColumnsModel", "readings", "[I", true)
  | 9 => ("GaugeColumnsModel", "greatest", "I", false)
  | 10 => ("GaugeColumnsModel", "placeOfGreatest", "I", false)
  | 11 => ("GaugeColumnsModel", "at", "I", false)
  | 12 => ("GaugeColumnsModel", "letter", "I", false)
  | 13 => ("GaugeColumnsModel", "first", "I", false)
  | 14 => ("GaugeColumnsModel", "second", "I", false)
  | _ => ("GaugeColumnsModel", "third", "I", false)
def tyX7 : Nat → FieldType := fun k => match k with
  | 0 => .array .int
  | 1 => .array .int
  | 2 => .int
  | 3 => .array .int
  | 4 => .array .int
  | 5 => .array .int
  | 6 => .int
  | 7 => .array .int
  | 8 => .array .int
  | 9 => .int
  | 10 => .int
  | 11 => .int
  | 12 => .int
  | 13 => .int
  | 14 => .int
  | _ => .int
abbrev wsX70 : List Cond := u_ws RX7 TX7 16
theorem nmX7 : ∀ a, a < 16 → ∀ b, b < 16 → a ≠ b → (TX7 a).2.1 ≠ (TX7 b).2.1 := by decide +kernel
theorem tyX7_ok : ∀ k, k < 16 → parseFieldDescriptor (TX7 k).2.2.1 = some (tyX7 k) := by decide +kernel
abbrev cX7_init : ByteArray := prog_9_method_1_code
def yX7_init : MethodName := ⟨RX7, "<init>", "()V"⟩
abbrev cX7_moves : ByteArray := prog_9_method_3_code
def yX7_moves : MethodName := ⟨RX7, "moves", "([II[II)V"⟩
abbrev cX7_within : ByteArray := prog_9_method_4_code
def yX7_within : MethodName := ⟨RX7, "within", "(III)Z"⟩
abbrev cX7_size : ByteArray := prog_9_method_5_code
def yX7_size : MethodName := ⟨RX7, "size", "(I)I"⟩
abbrev cX7_rounded : ByteArray := prog_9_method_6_code
def yX7_rounded : MethodName := ⟨RX7, "rounded", "(II)I"⟩
abbrev cX7_record : ByteArray := prog_9_method_7_code
def yX7_record : MethodName := ⟨RX7, "record", "()V"⟩
abbrev cX7_isRing : ByteArray := prog_9_method_8_code
def yX7_isRing : MethodName := ⟨RX7, "isRing", "(I)Z"⟩
abbrev cX7_isStacked : ByteArray := prog_9_method_9_code
def yX7_isStacked : MethodName := ⟨RX7, "isStacked", "(I)Z"⟩
abbrev cX7_massOf : ByteArray := prog_9_method_10_code
def yX7_massOf : MethodName := ⟨RX7, "massOf", "(I)I"⟩
abbrev cX7_weightOf : ByteArray := prog_9_method_11_code
def yX7_weightOf : MethodName := ⟨RX7, "weightOf", "(II)I"⟩
abbrev cX7_pressureBy : ByteArray := prog_9_method_12_code
def yX7_pressureBy : MethodName := ⟨RX7, "pressureBy", "(II)I"⟩
abbrev cX7_pressureOf : ByteArray := prog_9_method_13_code
def yX7_pressureOf : MethodName := ⟨RX7, "pressureOf", "(I)I"⟩
abbrev cX7_bits : ByteArray := prog_9_method_14_code
def yX7_bits : MethodName := ⟨RX7, "bits", "(I)I"⟩
abbrev cX7_findOrder : ByteArray := prog_9_method_15_code
def yX7_findOrder : MethodName := ⟨RX7, "findOrder", "()V"⟩
abbrev cX7_isGauge : ByteArray := prog_9_method_16_code
def yX7_isGauge : MethodName := ⟨RX7, "isGauge", "(I)Z"⟩
abbrev cX7_part : ByteArray := prog_9_method_17_code
def yX7_part : MethodName := ⟨RX7, "part", "(II)I"⟩
abbrev cX7_setPart : ByteArray := prog_9_method_18_code
def yX7_setPart : MethodName := ⟨RX7, "setPart", "(III)V"⟩
abbrev cX7_truth : ByteArray := prog_9_method_19_code
def yX7_truth : MethodName := ⟨RX7, "truth", "(II)I"⟩
abbrev cX7_goesTo : ByteArray := prog_9_method_20_code
def yX7_goesTo : MethodName := ⟨RX7, "goesTo", "(IIII)I"⟩
abbrev cX7_reads : ByteArray := prog_9_method_21_code
def yX7_reads : MethodName := ⟨RX7, "reads", "(II)I"⟩
abbrev cX7_handGoes : ByteArray := prog_9_method_22_code
def yX7_handGoes : MethodName := ⟨RX7, "handGoes", "(I)V"⟩
abbrev cX7_handsGo : ByteArray := prog_9_method_23_code
def yX7_handsGo : MethodName := ⟨RX7, "handsGo", "()V"⟩
abbrev cX7_voids : ByteArray := prog_9_method_24_code
def yX7_voids : MethodName := ⟨RX7, "voids", "(I)V"⟩
abbrev cX7_voidsAll : ByteArray := prog_9_method_25_code
def yX7_voidsAll : MethodName := ⟨RX7, "voidsAll", "()V"⟩
abbrev cX7_certificates : ByteArray := prog_9_method_26_code
def yX7_certificates : MethodName := ⟨RX7, "certificates", "()I"⟩
abbrev cX7_tests : ByteArray := prog_9_method_27_code
def yX7_tests : MethodName := ⟨RX7, "tests", "(II)V"⟩
abbrev cX7_isValue : ByteArray := prog_9_method_28_code
def yX7_isValue : MethodName := ⟨RX7, "isValue", "(II)Z"⟩
abbrev cX7_sets : ByteArray := prog_9_method_29_code
def yX7_sets : MethodName := ⟨RX7, "sets", "(II)I"⟩
abbrev cX7_set : ByteArray := prog_9_method_30_code
def yX7_set : MethodName := ⟨RX7, "set", "(II)I"⟩
abbrev cX7_whyNoRing : ByteArray := prog_9_method_31_code
def yX7_whyNoRing : MethodName := ⟨RX7, "whyNoRing", "(I)I"⟩
abbrev cX7_comes : ByteArray := prog_9_method_32_code
def yX7_comes : MethodName := ⟨RX7, "comes", "(I)I"⟩
abbrev cX7_ring : ByteArray := prog_9_method_33_code
def yX7_ring : MethodName := ⟨RX7, "ring", "(I)I"⟩
abbrev cX7_lose : ByteArray := prog_9_method_34_code
def yX7_lose : MethodName := ⟨RX7, "lose", "()I"⟩
abbrev cX7_whyNotMoved : ByteArray := prog_9_method_35_code
def yX7_whyNotMoved : MethodName := ⟨RX7, "whyNotMoved", "(IZ)I"⟩
abbrev cX7_isMoved : ByteArray := prog_9_method_36_code
def yX7_isMoved : MethodName := ⟨RX7, "isMoved", "(I)I"⟩
abbrev cX7_stack : ByteArray := prog_9_method_37_code
def yX7_stack : MethodName := ⟨RX7, "stack", "(I)I"⟩
abbrev cX7_take : ByteArray := prog_9_method_38_code
def yX7_take : MethodName := ⟨RX7, "take", "(I)I"⟩
abbrev cX7_isError : ByteArray := prog_9_method_39_code
def yX7_isError : MethodName := ⟨RX7, "isError", "(I)Z"⟩
abbrev cX7_whyNoGauge : ByteArray := prog_9_method_40_code
def yX7_whyNoGauge : MethodName := ⟨RX7, "whyNoGauge", "(III)I"⟩
abbrev cX7_comesGauge : ByteArray := prog_9_method_41_code
def yX7_comesGauge : MethodName := ⟨RX7, "comesGauge", "(III)I"⟩
abbrev cX7_gauge : ByteArray := prog_9_method_42_code
def yX7_gauge : MethodName := ⟨RX7, "gauge", "(III)I"⟩
abbrev cX7_tune : ByteArray := prog_9_method_43_code
def yX7_tune : MethodName := ⟨RX7, "tune", "(II)I"⟩
abbrev cX7_whyNotCertified : ByteArray := prog_9_method_44_code
def yX7_whyNotCertified : MethodName := ⟨RX7, "whyNotCertified", "(I)I"⟩
abbrev cX7_certifies : ByteArray := prog_9_method_45_code
def yX7_certifies : MethodName := ⟨RX7, "certifies", "(I)I"⟩
abbrev cX7_certify : ByteArray := prog_9_method_46_code
def yX7_certify : MethodName := ⟨RX7, "certify", "(I)I"⟩
abbrev cX7_placeOf : ByteArray := prog_9_method_47_code
def yX7_placeOf : MethodName := ⟨RX7, "placeOf", "(I)I"⟩
abbrev cX7_ofRing : ByteArray := prog_9_method_48_code
def yX7_ofRing : MethodName := ⟨RX7, "ofRing", "(II)I"⟩
abbrev cX7_ofGauge : ByteArray := prog_9_method_49_code
def yX7_ofGauge : MethodName := ⟨RX7, "ofGauge", "(II)I"⟩
abbrev cX7_reading : ByteArray := prog_9_method_50_code
def yX7_reading : MethodName := ⟨RX7, "reading", "(II)I"⟩
abbrev cX7_count : ByteArray := prog_9_method_51_code
def yX7_count : MethodName := ⟨RX7, "count", "(I)I"⟩
abbrev cX7_pressure : ByteArray := prog_9_method_52_code
def yX7_pressure : MethodName := ⟨RX7, "pressure", "(I)I"⟩
abbrev cX7_nearest : ByteArray := prog_9_method_53_code
def yX7_nearest : MethodName := ⟨RX7, "nearest", "(II)I"⟩
abbrev cX7_test : ByteArray := prog_9_method_54_code
def yX7_test : MethodName := ⟨RX7, "test", "(II)I"⟩
abbrev cX7_bestError : ByteArray := prog_9_method_55_code
def yX7_bestError : MethodName := ⟨RX7, "bestError", "(II)I"⟩
abbrev cX7_airCosts : ByteArray := prog_9_method_56_code
def yX7_airCosts : MethodName := ⟨RX7, "airCosts", "(I)I"⟩
abbrev cX7_put : ByteArray := prog_9_method_57_code
def yX7_put : MethodName := ⟨RX7, "put", "(J)I"⟩
abbrev cX7_wipe : ByteArray := prog_9_method_58_code
def yX7_wipe : MethodName := ⟨RX7, "wipe", "()I"⟩
abbrev cX7_character : ByteArray := prog_9_method_59_code
def yX7_character : MethodName := ⟨RX7, "character", "(I)I"⟩
abbrev cX7_isNext : ByteArray := prog_9_method_60_code
def yX7_isNext : MethodName := ⟨RX7, "isNext", "(I)Z"⟩
abbrev cX7_takeDigit : ByteArray := prog_9_method_61_code
def yX7_takeDigit : MethodName := ⟨RX7, "takeDigit", "()I"⟩
abbrev cX7_takeNumber : ByteArray := prog_9_method_62_code
def yX7_takeNumber : MethodName := ⟨RX7, "takeNumber", "()I"⟩
abbrev cX7_readsGauge : ByteArray := prog_9_method_63_code
def yX7_readsGauge : MethodName := ⟨RX7, "readsGauge", "()Z"⟩
abbrev cX7_readsOrder : ByteArray := prog_9_method_64_code
def yX7_readsOrder : MethodName := ⟨RX7, "readsOrder", "()Z"⟩
abbrev cX7_findFault : ByteArray := prog_9_method_65_code
def yX7_findFault : MethodName := ⟨RX7, "findFault", "()I"⟩
abbrev cX7_fault : ByteArray := prog_9_method_66_code
def yX7_fault : MethodName := ⟨RX7, "fault", "()I"⟩
abbrev cX7_whyNotDone : ByteArray := prog_9_method_67_code
def yX7_whyNotDone : MethodName := ⟨RX7, "whyNotDone", "()I"⟩
abbrev cX7_does : ByteArray := prog_9_method_68_code
def yX7_does : MethodName := ⟨RX7, "does", "()V"⟩
abbrev cX7_carryOut : ByteArray := prog_9_method_69_code
def yX7_carryOut : MethodName := ⟨RX7, "carryOut", "()I"⟩
abbrev cX7_undo : ByteArray := prog_9_method_70_code
def yX7_undo : MethodName := ⟨RX7, "undo", "()I"⟩
abbrev cX7_save : ByteArray := prog_9_method_71_code
def yX7_save : MethodName := ⟨RX7, "save", "(I)I"⟩
abbrev cX7_restore : ByteArray := prog_9_method_72_code
def yX7_restore : MethodName := ⟨RX7, "restore", "(I)I"⟩
def RJx8e188 : String := "java/lang/Cloneable"
def TJx8e188 : u_T := fun k => match k with
  | _ => ("", "", "", false)
def tyJx8e188 : Nat → FieldType := fun k => match k with
  | _ => .int
abbrev wsJx8e1880 : List Cond := u_ws RJx8e188 TJx8e188 0
theorem nmJx8e188 : ∀ a, a < 0 → ∀ b, b < 0 → a ≠ b → (TJx8e188 a).2.1 ≠ (TJx8e188 b).2.1 := by decide +kernel
theorem tyJx8e188_ok : ∀ k, k < 0 → parseFieldDescriptor (TJx8e188 k).2.2.1 = some (tyJx8e188 k) := by decide +kernel
def RJ6 : String := "java/lang/Integer"
def TJ6 : u_T := fun k => match k with
  | _ => ("", "", "", false)
def tyJ6 : Nat → FieldType := fun k => match k with
  | _ => .int
abbrev wsJ60 : List Cond := u_ws RJ6 TJ6 0
theorem nmJ6 : ∀ a, a < 0 → ∀ b, b < 0 → a ≠ b → (TJ6 a).2.1 ≠ (TJ6 b).2.1 := by decide +kernel
theorem tyJ6_ok : ∀ k, k < 0 → parseFieldDescriptor (TJ6 k).2.2.1 = some (tyJ6 k) := by decide +kernel
abbrev cJ6_bitCount_0f7a4 : ByteArray := prog_11_method_49_code
def yJ6_bitCount_0f7a4 : MethodName := ⟨RJ6, "bitCount", "(I)I"⟩
def RJ9 : String := "java/lang/Math"
def TJ9 : u_T := fun k => match k with
  | _ => ("", "", "", false)
def tyJ9 : Nat → FieldType := fun k => match k with
  | _ => .int
abbrev wsJ90 : List Cond := u_ws RJ9 TJ9 0
theorem nmJ9 : ∀ a, a < 0 → ∀ b, b < 0 → a ≠ b → (TJ9 a).2.1 ≠ (TJ9 b).2.1 := by decide +kernel
theorem tyJ9_ok : ∀ k, k < 0 → parseFieldDescriptor (TJ9 k).2.2.1 = some (tyJ9 k) := by decide +kernel
abbrev cJ9_abs_0f7a4 : ByteArray := prog_12_method_59_code
def yJ9_abs_0f7a4 : MethodName := ⟨RJ9, "abs", "(I)I"⟩
abbrev cJ9_min_7cf53 : ByteArray := prog_12_method_69_code
def yJ9_min_7cf53 : MethodName := ⟨RJ9, "min", "(II)I"⟩
def RJ10 : String := "java/lang/System"
def TJ10 : u_T := fun k => match k with
  | _ => ("", "", "", false)
def tyJ10 : Nat → FieldType := fun k => match k with
  | _ => .int
abbrev wsJ100 : List Cond := u_ws RJ10 TJ10 0
theorem nmJ10 : ∀ a, a < 0 → ∀ b, b < 0 → a ≠ b → (TJ10 a).2.1 ≠ (TJ10 b).2.1 := by decide +kernel
theorem tyJ10_ok : ∀ k, k < 0 → parseFieldDescriptor (TJ10 k).2.2.1 = some (tyJ10 k) := by decide +kernel
def RJ7 : String := "java/util/Arrays"
def TJ7 : u_T := fun k => match k with
  | _ => ("", "", "", false)
def tyJ7 : Nat → FieldType := fun k => match k with
  | _ => .int
abbrev wsJ70 : List Cond := u_ws RJ7 TJ7 0
theorem nmJ7 : ∀ a, a < 0 → ∀ b, b < 0 → a ≠ b → (TJ7 a).2.1 ≠ (TJ7 b).2.1 := by decide +kernel
theorem tyJ7_ok : ∀ k, k < 0 → parseFieldDescriptor (TJ7 k).2.2.1 = some (tyJ7 k) := by decide +kernel
abbrev cJ7_copyOf_59c91 : ByteArray := prog_14_method_123_code
def yJ7_copyOf_59c91 : MethodName := ⟨RJ7, "copyOf", "([II)[I"⟩
def RL : String := "GaugeColumnsLaw"
abbrev cL_law : ByteArray := code
def yL_law : MethodName := ⟨RL, "law", "([I)Z"⟩
def wsL_law_r1 : List Cond := [Cond.classLink RL 7 RX6, Cond.instantiable RX6 5, Cond.initialized RX6, Cond.classLink RL 10 RX7, Cond.instantiable RX7 16, Cond.initialized RX7, Cond.constantLong RL 85 (4294967295), Cond.methodLink RL 9 yX6_init, Cond.instanceMethod yX6_init, Cond.code yX6_init cX6_init 1 none, Cond.methodLink RX6 1 objectInit, Cond.instanceMethod objectInit, Cond.code objectInit ⟨#[0xb1]⟩ 1 none, Cond.classLink RX6 7 RX4, Cond.instantiable RX4 6, Cond.initialized RX4, Cond.fieldLink RX6 10 "GaugeColumns" "now" "LGaugeColumns$Tester;", Cond.classLink RX6 16 RX2, Cond.instantiable RX2 3, Cond.initialized RX2, Cond.fieldLink RX6 19 "GaugeColumns" "history" "LGaugeColumns$History;", Cond.fieldLink RX6 23 "GaugeColumns" "slots" "[LGaugeColumns$Tester;", Cond.classLink RX6 27 RX5, Cond.instantiable RX5 7]
def wsL_law_r2 : List Cond := [Cond.initialized RX5, Cond.fieldLink RX6 30 "GaugeColumns" "trial" "LGaugeColumns$Trial;", Cond.classLink RX6 34 RX3, Cond.instantiable RX3 5, Cond.initialized RX3, Cond.fieldLink RX6 37 "GaugeColumns" "pad" "LGaugeColumns$Pad;", Cond.methodLink RX6 9 yX4_init, Cond.instanceMethod yX4_init, Cond.code yX4_init cX4_init 2 none, Cond.methodLink RX4 3 objectInit, Cond.methodLink RX4 13 ⟨"[I", "clone", "()Ljava/lang/Object;"⟩, Cond.sameMethod "[I" "java/lang/Object" "clone" "()Ljava/lang/Object;", Cond.native ⟨"java/lang/Object", "clone", "()Ljava/lang/Object;"⟩, Cond.instanceMethod ⟨"java/lang/Object", "clone", "()Ljava/lang/Object;"⟩, Cond.selects "[I" ⟨"[I", "clone", "()Ljava/lang/Object;"⟩ ⟨"java/lang/Object", "clone", "()Ljava/lang/Object;"⟩, Cond.classLink RX4 14 "[I", Cond.fieldLink RX4 18 "GaugeColumns$Tester" "settings" "[I", Cond.arrayClass .int, Cond.fieldLink RX4 23 "GaugeColumns$Tester" "grams" "[I", Cond.classLink RX4 26 RX1, Cond.fieldLink RX4 28 "GaugeColumns$Tester" "gauges" "[LGaugeColumns$Gauge;", Cond.instantiable RX1 5, Cond.initialized RX1, Cond.instanceMethod yX1_init]
def wsL_law_r3 : List Cond := [Cond.code yX1_init cX1_init 1 none, Cond.methodLink RX1 3 objectInit, Cond.methodLink RX6 18 yX2_init, Cond.instanceMethod yX2_init, Cond.code yX2_init cX2_init 2 none, Cond.methodLink RX2 3 objectInit, Cond.classLink RX2 9 RX4, Cond.fieldLink RX2 11 "GaugeColumns$History" "states" "[LGaugeColumns$Tester;", Cond.methodLink RX2 17 yX4_init, Cond.instanceMethod yX5_init, Cond.code yX5_init cX5_init 1 none, Cond.methodLink RX5 3 objectInit, Cond.fieldLink RX5 9 "GaugeColumns$Trial" "readings" "[I", Cond.classLink RX5 15 RX1, Cond.fieldLink RX5 18 "GaugeColumns$Trial" "gauge" "LGaugeColumns$Gauge;", Cond.fieldLink RX5 22 "GaugeColumns$Trial" "sorted" "[I", Cond.fieldLink RX5 25 "GaugeColumns$Trial" "pressures" "[I", Cond.instanceMethod yX3_init, Cond.code yX3_init cX3_init 1 none, Cond.methodLink RX3 3 objectInit, Cond.fieldLink RX3 9 "GaugeColumns$Pad" "numbers" "[I", Cond.arrayClass .char, Cond.fieldLink RX3 15 "GaugeColumns$Pad" "signs" "[C", Cond.methodLink RL 12 yX7_init]
def wsL_law_r4 : List Cond := [Cond.instanceMethod yX7_init, Cond.code yX7_init cX7_init 1 none, Cond.methodLink RX7 1 objectInit, Cond.fieldLink RX7 7 "GaugeColumnsModel" "state" "[I", Cond.fieldLink RX7 13 "GaugeColumnsModel" "history" "[I", Cond.fieldLink RX7 16 "GaugeColumnsModel" "slots" "[I", Cond.fieldLink RX7 19 "GaugeColumnsModel" "isSaved" "[I", Cond.fieldLink RX7 22 "GaugeColumnsModel" "pad" "[I", Cond.fieldLink RX7 25 "GaugeColumnsModel" "order" "[I", Cond.fieldLink RX7 28 "GaugeColumnsModel" "readings" "[I", Cond.methodLink RL 13 yX6_set, Cond.instanceMethod yX6_set, Cond.selects RX6 yX6_set yX6_set, Cond.code yX6_set cX6_set 3 (some .int), Cond.methodLink RX6 41 yX2_remember, Cond.instanceMethod yX2_remember, Cond.selects RX2 yX2_remember yX2_remember, Cond.code yX2_remember cX2_remember 2 none, Cond.fieldLink RX2 18 "GaugeColumns$History" "next" "I", Cond.methodLink RX2 22 yX4_copyFrom, Cond.instanceMethod yX4_copyFrom, Cond.selects RX4 yX4_copyFrom yX4_copyFrom, Cond.code yX4_copyFrom cX4_copyFrom 3 none, Cond.methodLink RX4 33 arraycopyName]
def wsL_law_r5 : List Cond := [Cond.native arraycopyName, Cond.static arraycopyName, Cond.initialized "java/lang/System", Cond.fieldLink RX4 43 "GaugeColumns$Tester" "ringCount" "I", Cond.fieldLink RX4 47 "GaugeColumns$Tester" "column" "I", Cond.fieldLink RX4 50 "GaugeColumns$Tester" "gaugeCount" "I", Cond.methodLink RX4 39 yX1_copyFrom, Cond.instanceMethod yX1_copyFrom, Cond.selects RX1 yX1_copyFrom yX1_copyFrom, Cond.code yX1_copyFrom cX1_copyFrom 2 none, Cond.fieldLink RX1 9 "GaugeColumns$Gauge" "error" "I", Cond.fieldLink RX1 15 "GaugeColumns$Gauge" "play" "I", Cond.fieldLink RX1 18 "GaugeColumns$Gauge" "step" "I", Cond.fieldLink RX1 21 "GaugeColumns$Gauge" "hand" "I", Cond.fieldLink RX1 24 "GaugeColumns$Gauge" "certificate" "LGaugeColumns$Certificate;", Cond.methodLink RX6 45 yX4_change, Cond.instanceMethod yX4_change, Cond.selects RX4 yX4_change yX4_change, Cond.code yX4_change cX4_change 4 (some .int), Cond.methodLink RX4 59 yX4_voidCertificates, Cond.instanceMethod yX4_voidCertificates, Cond.selects RX4 yX4_voidCertificates yX4_voidCertificates, Cond.code yX4_voidCertificates cX4_voidCertificates 2 none, Cond.fieldLink RX4 91 "GaugeColumns$Gauge" "certificate" "LGaugeColumns$Certificate;"]
def wsL_law_r6 : List Cond := [Cond.methodLink RX4 62 yX4_moveHands, Cond.instanceMethod yX4_moveHands, Cond.selects RX4 yX4_moveHands yX4_moveHands, Cond.code yX4_moveHands cX4_moveHands 3 (some .int), Cond.methodLink RX4 77 yX4_columnPressure, Cond.instanceMethod yX4_columnPressure, Cond.selects RX4 yX4_columnPressure yX4_columnPressure, Cond.code yX4_columnPressure cX4_columnPressure 1 (some .int), Cond.methodLink RX4 120 yX4_massOf, Cond.instanceMethod yX4_massOf, Cond.selects RX4 yX4_massOf yX4_massOf, Cond.code yX4_massOf cX4_massOf 4 (some .int), Cond.methodLink RX4 124 yX4_pressureOf, Cond.instanceMethod yX4_pressureOf, Cond.selects RX4 yX4_pressureOf yX4_pressureOf, Cond.code yX4_pressureOf cX4_pressureOf 3 (some .int), Cond.static yX6_weightOf, Cond.code yX6_weightOf cX6_weightOf 2 (some .int), Cond.constant RX6 203 (100000), Cond.methodLink RX6 204 yX6_dividedRounded, Cond.static yX6_dividedRounded, Cond.code yX6_dividedRounded cX6_dividedRounded 2 (some .int), Cond.static yX6_dividedDown, Cond.code yX6_dividedDown cX6_dividedDown 2 (some .int)]
def wsL_law_r7 : List Cond := [Cond.methodLink RX4 80 yX1_follow, Cond.instanceMethod yX1_follow, Cond.selects RX1 yX1_follow yX1_follow, Cond.code yX1_follow cX1_follow 4 none, Cond.methodLink RX1 28 Lib.Math.abs.name, Cond.static Lib.Math.abs.name, Cond.initialized "java/lang/Math", Cond.code Lib.Math.abs.name Lib.Math.abs.code 1 (some .int), Cond.methodLink RX6 49 yX2_settle, Cond.instanceMethod yX2_settle, Cond.selects RX2 yX2_settle yX2_settle, Cond.code yX2_settle cX2_settle 2 (some .int), Cond.fieldLink RX2 26 "GaugeColumns$History" "kept" "I", Cond.methodLink RX2 29 Lib.Math.min.name, Cond.static Lib.Math.min.name, Cond.code Lib.Math.min.name Lib.Math.min.code 2 (some .int), Cond.methodLink RL 17 yX7_set, Cond.instanceMethod yX7_set, Cond.selects RX7 yX7_set yX7_set, Cond.code yX7_set cX7_set 3 (some .int), Cond.methodLink RX7 103 yX7_isValue, Cond.static yX7_isValue, Cond.code yX7_isValue cX7_isValue 2 (some .boolean), Cond.methodLink RX7 39 yX7_within]
def wsL_law_r8 : List Cond := [Cond.static yX7_within, Cond.code yX7_within cX7_within 3 (some .boolean), Cond.methodLink RX7 107 yX7_record, Cond.instanceMethod yX7_record, Cond.selects RX7 yX7_record yX7_record, Cond.code yX7_record cX7_record 2 none, Cond.fieldLink RX7 31 "GaugeColumnsModel" "recorded" "I", Cond.methodLink RX7 35 yX7_moves, Cond.static yX7_moves, Cond.code yX7_moves cX7_moves 5 none, Cond.methodLink RX7 110 yX7_sets, Cond.instanceMethod yX7_sets, Cond.selects RX7 yX7_sets yX7_sets, Cond.code yX7_sets cX7_sets 4 (some .int), Cond.methodLink RX7 97 yX7_voidsAll, Cond.instanceMethod yX7_voidsAll, Cond.selects RX7 yX7_voidsAll yX7_voidsAll, Cond.code yX7_voidsAll cX7_voidsAll 2 none, Cond.methodLink RX7 82 yX7_voids, Cond.instanceMethod yX7_voids, Cond.selects RX7 yX7_voids yX7_voids, Cond.code yX7_voids cX7_voids 3 none, Cond.methodLink RX7 74 yX7_setPart, Cond.instanceMethod yX7_setPart]
def wsL_law_r9 : List Cond := [Cond.selects RX7 yX7_setPart yX7_setPart, Cond.code yX7_setPart cX7_setPart 4 none, Cond.methodLink RX7 100 yX7_handsGo, Cond.instanceMethod yX7_handsGo, Cond.selects RX7 yX7_handsGo yX7_handsGo, Cond.code yX7_handsGo cX7_handsGo 2 none, Cond.methodLink RX7 78 yX7_handGoes, Cond.instanceMethod yX7_handGoes, Cond.selects RX7 yX7_handGoes yX7_handGoes, Cond.code yX7_handGoes cX7_handGoes 2 none, Cond.methodLink RX7 64 yX7_part, Cond.instanceMethod yX7_part, Cond.selects RX7 yX7_part yX7_part, Cond.code yX7_part cX7_part 3 (some .int), Cond.methodLink RX7 67 yX7_pressureOf, Cond.instanceMethod yX7_pressureOf, Cond.selects RX7 yX7_pressureOf yX7_pressureOf, Cond.code yX7_pressureOf cX7_pressureOf 2 (some .int), Cond.methodLink RX7 51 yX7_massOf, Cond.instanceMethod yX7_massOf, Cond.selects RX7 yX7_massOf yX7_massOf, Cond.code yX7_massOf cX7_massOf 4 (some .int), Cond.methodLink RX7 55 yX7_pressureBy, Cond.instanceMethod yX7_pressureBy]
def wsL_law_r10 : List Cond := [Cond.selects RX7 yX7_pressureBy yX7_pressureBy, Cond.code yX7_pressureBy cX7_pressureBy 3 (some .int), Cond.methodLink RX7 48 yX7_weightOf, Cond.instanceMethod yX7_weightOf, Cond.selects RX7 yX7_weightOf yX7_weightOf, Cond.code yX7_weightOf cX7_weightOf 3 (some .int), Cond.constant RX7 43 (100000), Cond.methodLink RX7 44 yX7_rounded, Cond.static yX7_rounded, Cond.code yX7_rounded cX7_rounded 2 (some .int), Cond.methodLink RX7 70 yX7_goesTo, Cond.static yX7_goesTo, Cond.code yX7_goesTo cX7_goesTo 5 (some .int), Cond.methodLink RX7 61 yX7_truth, Cond.static yX7_truth, Cond.code yX7_truth cX7_truth 3 (some .int), Cond.methodLink RX7 58 yX7_size, Cond.static yX7_size, Cond.code yX7_size cX7_size 1 (some .int), Cond.methodLink RL 18 yX6_ring, Cond.instanceMethod yX6_ring, Cond.selects RX6 yX6_ring yX6_ring, Cond.code yX6_ring cX6_ring 2 (some .int), Cond.methodLink RX6 53 yX4_addRing]
def wsL_law_r11 : List Cond := [Cond.instanceMethod yX4_addRing, Cond.selects RX4 yX4_addRing yX4_addRing, Cond.code yX4_addRing cX4_addRing 2 (some .int), Cond.methodLink RL 22 yX7_ring, Cond.instanceMethod yX7_ring, Cond.selects RX7 yX7_ring yX7_ring, Cond.code yX7_ring cX7_ring 3 (some .int), Cond.methodLink RX7 113 yX7_whyNoRing, Cond.instanceMethod yX7_whyNoRing, Cond.selects RX7 yX7_whyNoRing yX7_whyNoRing, Cond.code yX7_whyNoRing cX7_whyNoRing 2 (some .int), Cond.methodLink RX7 116 yX7_comes, Cond.instanceMethod yX7_comes, Cond.selects RX7 yX7_comes yX7_comes, Cond.code yX7_comes cX7_comes 2 (some .int), Cond.methodLink RL 23 yX6_lose, Cond.instanceMethod yX6_lose, Cond.selects RX6 yX6_lose yX6_lose, Cond.code yX6_lose cX6_lose 1 (some .int), Cond.methodLink RX6 56 yX4_dropRing, Cond.instanceMethod yX4_dropRing, Cond.selects RX4 yX4_dropRing yX4_dropRing, Cond.code yX4_dropRing cX4_dropRing 1 (some .int), Cond.methodLink RL 27 yX7_lose]
def wsL_law_r12 : List Cond := [Cond.instanceMethod yX7_lose, Cond.selects RX7 yX7_lose yX7_lose, Cond.code yX7_lose cX7_lose 3 (some .int), Cond.methodLink RL 28 yX6_stack, Cond.instanceMethod yX6_stack, Cond.selects RX6 yX6_stack yX6_stack, Cond.code yX6_stack cX6_stack 2 (some .int), Cond.methodLink RX6 60 yX4_putOn, Cond.instanceMethod yX4_putOn, Cond.selects RX4 yX4_putOn yX4_putOn, Cond.code yX4_putOn cX4_putOn 2 (some .int), Cond.methodLink RX4 66 yX4_hasRing, Cond.instanceMethod yX4_hasRing, Cond.selects RX4 yX4_hasRing yX4_hasRing, Cond.code yX4_hasRing cX4_hasRing 2 (some .boolean), Cond.methodLink RX4 70 yX4_isStacked, Cond.instanceMethod yX4_isStacked, Cond.selects RX4 yX4_isStacked yX4_isStacked, Cond.code yX4_isStacked cX4_isStacked 2 (some .boolean), Cond.methodLink RL 31 yX7_stack, Cond.instanceMethod yX7_stack, Cond.selects RX7 yX7_stack yX7_stack, Cond.code yX7_stack cX7_stack 3 (some .int), Cond.methodLink RX7 126 yX7_whyNotMoved]
def wsL_law_r13 : List Cond := [Cond.instanceMethod yX7_whyNotMoved, Cond.selects RX7 yX7_whyNotMoved yX7_whyNotMoved, Cond.code yX7_whyNotMoved cX7_whyNotMoved 3 (some .int), Cond.methodLink RX7 119 yX7_isRing, Cond.instanceMethod yX7_isRing, Cond.selects RX7 yX7_isRing yX7_isRing, Cond.code yX7_isRing cX7_isRing 2 (some .boolean), Cond.methodLink RX7 123 yX7_isStacked, Cond.instanceMethod yX7_isStacked, Cond.selects RX7 yX7_isStacked yX7_isStacked, Cond.code yX7_isStacked cX7_isStacked 2 (some .boolean), Cond.methodLink RX7 130 yX7_isMoved, Cond.instanceMethod yX7_isMoved, Cond.selects RX7 yX7_isMoved yX7_isMoved, Cond.code yX7_isMoved cX7_isMoved 2 (some .int), Cond.methodLink RL 32 yX6_take, Cond.instanceMethod yX6_take, Cond.selects RX6 yX6_take yX6_take, Cond.code yX6_take cX6_take 2 (some .int), Cond.methodLink RX6 63 yX4_takeOff, Cond.instanceMethod yX4_takeOff, Cond.selects RX4 yX4_takeOff yX4_takeOff, Cond.code yX4_takeOff cX4_takeOff 2 (some .int), Cond.methodLink RL 35 yX7_take]
def wsL_law_r14 : List Cond := [Cond.instanceMethod yX7_take, Cond.selects RX7 yX7_take yX7_take, Cond.code yX7_take cX7_take 3 (some .int), Cond.methodLink RL 36 yX6_gauge, Cond.instanceMethod yX6_gauge, Cond.selects RX6 yX6_gauge yX6_gauge, Cond.code yX6_gauge cX6_gauge 4 (some .int), Cond.methodLink RX6 66 yX4_addGauge, Cond.instanceMethod yX4_addGauge, Cond.selects RX4 yX4_addGauge yX4_addGauge, Cond.code yX4_addGauge cX4_addGauge 4 (some .int), Cond.methodLink RX4 73 yX1_begin, Cond.instanceMethod yX1_begin, Cond.selects RX1 yX1_begin yX1_begin, Cond.code yX1_begin cX1_begin 4 none, Cond.methodLink RL 40 yX7_gauge, Cond.instanceMethod yX7_gauge, Cond.selects RX7 yX7_gauge yX7_gauge, Cond.code yX7_gauge cX7_gauge 5 (some .int), Cond.methodLink RX7 136 yX7_whyNoGauge, Cond.instanceMethod yX7_whyNoGauge, Cond.selects RX7 yX7_whyNoGauge yX7_whyNoGauge, Cond.code yX7_whyNoGauge cX7_whyNoGauge 4 (some .int), Cond.methodLink RX7 133 yX7_isError]
def wsL_law_r15 : List Cond := [Cond.static yX7_isError, Cond.code yX7_isError cX7_isError 1 (some .boolean), Cond.methodLink RX7 140 yX7_comesGauge, Cond.instanceMethod yX7_comesGauge, Cond.selects RX7 yX7_comesGauge yX7_comesGauge, Cond.code yX7_comesGauge cX7_comesGauge 6 (some .int), Cond.methodLink RL 41 yX6_tune, Cond.instanceMethod yX6_tune, Cond.selects RX6 yX6_tune yX6_tune, Cond.code yX6_tune cX6_tune 3 (some .int), Cond.methodLink RX6 70 yX4_adjust, Cond.instanceMethod yX4_adjust, Cond.selects RX4 yX4_adjust yX4_adjust, Cond.code yX4_adjust cX4_adjust 5 (some .int), Cond.fieldLink RX4 88 "GaugeColumns$Gauge" "error" "I", Cond.methodLink RX4 84 yX4_gaugeAt, Cond.instanceMethod yX4_gaugeAt, Cond.selects RX4 yX4_gaugeAt yX4_gaugeAt, Cond.code yX4_gaugeAt cX4_gaugeAt 2 (some (.object "GaugeColumns$Gauge")), Cond.methodLink RL 44 yX7_tune, Cond.instanceMethod yX7_tune, Cond.selects RX7 yX7_tune yX7_tune, Cond.code yX7_tune cX7_tune 4 (some .int), Cond.methodLink RX7 143 yX7_isGauge]
def wsL_law_r16 : List Cond := [Cond.instanceMethod yX7_isGauge, Cond.selects RX7 yX7_isGauge yX7_isGauge, Cond.code yX7_isGauge cX7_isGauge 2 (some .boolean), Cond.methodLink RL 45 yX6_certify, Cond.instanceMethod yX6_certify, Cond.selects RX6 yX6_certify yX6_certify, Cond.code yX6_certify cX6_certify 2 (some .int), Cond.methodLink RX6 73 yX4_certifyBy, Cond.instanceMethod yX4_certifyBy, Cond.selects RX4 yX4_certifyBy yX4_certifyBy, Cond.code yX4_certifyBy cX4_certifyBy 4 (some .int), Cond.fieldLink RX4 105 "GaugeColumns$Trial" "greatest" "I", Cond.classLink RX4 108 RX0, Cond.instantiable RX0 3, Cond.initialized RX0, Cond.methodLink RX4 95 yX5_prepare, Cond.instanceMethod yX5_prepare, Cond.selects RX5 yX5_prepare yX5_prepare, Cond.code yX5_prepare cX5_prepare 5 none, Cond.fieldLink RX5 28 "GaugeColumns$Tester" "ringCount" "I", Cond.fieldLink RX5 38 "GaugeColumns$Tester" "grams" "[I", Cond.fieldLink RX5 41 "GaugeColumns$Tester" "settings" "[I", Cond.fieldLink RX5 48 "GaugeColumns$Trial" "length" "I", Cond.methodLink RX5 34 yX4_placeOf]
def wsL_law_r17 : List Cond := [Cond.instanceMethod yX4_placeOf, Cond.selects RX4 yX4_placeOf yX4_placeOf, Cond.code yX4_placeOf cX4_placeOf 4 (some .int), Cond.methodLink RX5 44 yX4_pressureOf, Cond.methodLink RX4 101 yX5_run, Cond.instanceMethod yX5_run, Cond.selects RX5 yX5_run yX5_run, Cond.code yX5_run cX5_run 6 none, Cond.fieldLink RX5 51 "GaugeColumns$Gauge" "play" "I", Cond.fieldLink RX5 54 "GaugeColumns$Gauge" "step" "I", Cond.fieldLink RX5 61 "GaugeColumns$Trial" "greatest" "I", Cond.fieldLink RX5 64 "GaugeColumns$Trial" "worst" "I", Cond.methodLink RX5 75 Lib.Math.abs.name, Cond.methodLink RX5 57 yX1_begin, Cond.methodLink RX5 67 yX1_follow, Cond.methodLink RX5 71 yX1_shown, Cond.instanceMethod yX1_shown, Cond.selects RX1 yX1_shown yX1_shown, Cond.code yX1_shown cX1_shown 1 (some .int), Cond.methodLink RX4 110 yX0_init, Cond.instanceMethod yX0_init, Cond.code yX0_init cX0_init 3 none, Cond.methodLink RX0 1 objectInit, Cond.fieldLink RX0 7 "GaugeColumns$Trial" "readings" "[I"]
def wsL_law_r18 : List Cond := [Cond.fieldLink RX0 13 "GaugeColumns$Trial" "length" "I", Cond.fieldLink RX0 23 "GaugeColumns$Certificate" "readings" "[I", Cond.fieldLink RX0 26 "GaugeColumns$Trial" "greatest" "I", Cond.fieldLink RX0 29 "GaugeColumns$Certificate" "greatest" "I", Cond.fieldLink RX0 30 "GaugeColumns$Certificate" "air" "I", Cond.methodLink RX0 17 yJ7_copyOf_59c91, Cond.static yJ7_copyOf_59c91, Cond.initialized RJ7, Cond.code yJ7_copyOf_59c91 cJ7_copyOf_59c91 3 (some (.array .int)), Cond.methodLink RJ7 316 ⟨"[I", "clone", "()Ljava/lang/Object;"⟩, Cond.classLink RJ7 317 "[I", Cond.methodLink RJ7 304 Lib.Math.min.name, Cond.methodLink RJ7 150 arraycopyName, Cond.methodLink RL 48 yX7_certify, Cond.instanceMethod yX7_certify, Cond.selects RX7 yX7_certify yX7_certify, Cond.code yX7_certify cX7_certify 3 (some .int), Cond.methodLink RX7 150 yX7_whyNotCertified, Cond.instanceMethod yX7_whyNotCertified, Cond.selects RX7 yX7_whyNotCertified yX7_whyNotCertified, Cond.code yX7_whyNotCertified cX7_whyNotCertified 2 (some .int), Cond.methodLink RX7 153 yX7_certifies, Cond.instanceMethod yX7_certifies, Cond.selects RX7 yX7_certifies yX7_certifies]
def wsL_law_r19 : List Cond := [Cond.code yX7_certifies cX7_certifies 3 (some .int), Cond.fieldLink RX7 85 "GaugeColumnsModel" "greatest" "I", Cond.methodLink RX7 146 yX7_tests, Cond.instanceMethod yX7_tests, Cond.selects RX7 yX7_tests yX7_tests, Cond.code yX7_tests cX7_tests 10 none, Cond.fieldLink RX7 88 "GaugeColumnsModel" "placeOfGreatest" "I", Cond.methodLink RX7 91 yX7_findOrder, Cond.instanceMethod yX7_findOrder, Cond.selects RX7 yX7_findOrder yX7_findOrder, Cond.code yX7_findOrder cX7_findOrder 3 none, Cond.methodLink RX7 94 yX7_reads, Cond.static yX7_reads, Cond.code yX7_reads cX7_reads 2 (some .int), Cond.methodLink RL 49 yX6_ofRing, Cond.instanceMethod yX6_ofRing, Cond.selects RX6 yX6_ofRing yX6_ofRing, Cond.code yX6_ofRing cX6_ofRing 3 (some .int), Cond.fieldLink RX6 81 "GaugeColumns$Tester" "grams" "[I", Cond.methodLink RX6 77 yX4_hasRing, Cond.methodLink RX6 85 yX4_isStacked, Cond.methodLink RX6 88 yX4_placeOf, Cond.methodLink RL 52 yX7_ofRing, Cond.instanceMethod yX7_ofRing]
def wsL_law_r20 : List Cond := [Cond.selects RX7 yX7_ofRing yX7_ofRing, Cond.code yX7_ofRing cX7_ofRing 3 (some .int), Cond.methodLink RX7 156 yX7_placeOf, Cond.instanceMethod yX7_placeOf, Cond.selects RX7 yX7_placeOf yX7_placeOf, Cond.code yX7_placeOf cX7_placeOf 4 (some .int), Cond.methodLink RL 53 yX6_ofGauge, Cond.instanceMethod yX6_ofGauge, Cond.selects RX6 yX6_ofGauge yX6_ofGauge, Cond.code yX6_ofGauge cX6_ofGauge 4 (some .int), Cond.methodLink RX6 91 yX4_gaugeAt, Cond.methodLink RX6 95 yX1_tell, Cond.instanceMethod yX1_tell, Cond.selects RX1 yX1_tell yX1_tell, Cond.code yX1_tell cX1_tell 2 (some .int), Cond.fieldLink RX1 45 "GaugeColumns$Certificate" "greatest" "I", Cond.fieldLink RX1 50 "GaugeColumns$Certificate" "air" "I", Cond.methodLink RX1 41 yX1_shown, Cond.methodLink RL 56 yX7_ofGauge, Cond.instanceMethod yX7_ofGauge, Cond.selects RX7 yX7_ofGauge yX7_ofGauge, Cond.code yX7_ofGauge cX7_ofGauge 4 (some .int), Cond.methodLink RL 57 yX6_reading, Cond.instanceMethod yX6_reading]
def wsL_law_r21 : List Cond := [Cond.selects RX6 yX6_reading yX6_reading, Cond.code yX6_reading cX6_reading 5 (some .int), Cond.fieldLink RX6 100 "GaugeColumns$Gauge" "certificate" "LGaugeColumns$Certificate;", Cond.fieldLink RX6 104 "GaugeColumns$Certificate" "readings" "[I", Cond.methodLink RL 60 yX7_reading, Cond.instanceMethod yX7_reading, Cond.selects RX7 yX7_reading yX7_reading, Cond.code yX7_reading cX7_reading 3 (some .int), Cond.methodLink RL 61 yX6_count, Cond.instanceMethod yX6_count, Cond.selects RX6 yX6_count yX6_count, Cond.code yX6_count cX6_count 2 (some .int), Cond.fieldLink RX6 109 "GaugeColumns$Tester" "ringCount" "I", Cond.fieldLink RX6 113 "GaugeColumns$Tester" "gaugeCount" "I", Cond.fieldLink RX6 116 "GaugeColumns$Tester" "column" "I", Cond.fieldLink RX6 122 "GaugeColumns$Tester" "settings" "[I", Cond.fieldLink RX6 134 "GaugeColumns$Pad" "length" "I", Cond.fieldLink RX6 137 "GaugeColumns$History" "kept" "I", Cond.methodLink RX6 119 yX4_massOf, Cond.methodLink RX6 125 yX6_weightOf, Cond.methodLink RX6 128 yX4_columnPressure, Cond.methodLink RX6 131 yX4_countCertificates, Cond.instanceMethod yX4_countCertificates, Cond.selects RX4 yX4_countCertificates yX4_countCertificates]
def wsL_law_r22 : List Cond := [Cond.code yX4_countCertificates cX4_countCertificates 3 (some .int), Cond.methodLink RL 64 yX7_count, Cond.instanceMethod yX7_count, Cond.selects RX7 yX7_count yX7_count, Cond.code yX7_count cX7_count 2 (some .int), Cond.fieldLink RX7 163 "GaugeColumnsModel" "padLength" "I", Cond.methodLink RX7 159 yX7_certificates, Cond.instanceMethod yX7_certificates, Cond.selects RX7 yX7_certificates yX7_certificates, Cond.code yX7_certificates cX7_certificates 3 (some .int), Cond.methodLink RL 65 yX6_pressure, Cond.instanceMethod yX6_pressure, Cond.selects RX6 yX6_pressure yX6_pressure, Cond.code yX6_pressure cX6_pressure 2 (some .int), Cond.methodLink RX6 140 yX4_pressureOf, Cond.methodLink RL 68 yX7_pressure, Cond.instanceMethod yX7_pressure, Cond.selects RX7 yX7_pressure yX7_pressure, Cond.code yX7_pressure cX7_pressure 2 (some .int), Cond.methodLink RL 69 yX6_nearest, Cond.instanceMethod yX6_nearest, Cond.selects RX6 yX6_nearest yX6_nearest, Cond.code yX6_nearest cX6_nearest 4 (some .int), Cond.methodLink RX6 143 yX4_nearestTo]
def wsL_law_r23 : List Cond := [Cond.instanceMethod yX4_nearestTo, Cond.selects RX4 yX4_nearestTo yX4_nearestTo, Cond.code yX4_nearestTo cX4_nearestTo 7 (some .int), Cond.constant RX4 127 (2147483647), Cond.methodLink RX4 128 Lib.Math.abs.name, Cond.methodLink RX4 133 yJ6_bitCount_0f7a4, Cond.static yJ6_bitCount_0f7a4, Cond.initialized RJ6, Cond.code yJ6_bitCount_0f7a4 cJ6_bitCount_0f7a4 1 (some .int), Cond.constant RJ6 265 (1431655765), Cond.constant RJ6 266 (858993459), Cond.constant RJ6 267 (252645135), Cond.methodLink RX4 138 yX4_massToNext, Cond.instanceMethod yX4_massToNext, Cond.selects RX4 yX4_massToNext yX4_massToNext, Cond.code yX4_massToNext cX4_massToNext 4 (some .int), Cond.methodLink RL 72 yX7_nearest, Cond.instanceMethod yX7_nearest, Cond.selects RX7 yX7_nearest yX7_nearest, Cond.code yX7_nearest cX7_nearest 7 (some .int), Cond.methodLink RX7 166 yX7_bits, Cond.static yX7_bits, Cond.code yX7_bits cX7_bits 3 (some .int), Cond.methodLink RL 73 yX6_test]
def wsL_law_r24 : List Cond := [Cond.instanceMethod yX6_test, Cond.selects RX6 yX6_test yX6_test, Cond.code yX6_test cX6_test 4 (some .int), Cond.fieldLink RX6 149 "GaugeColumns$Gauge" "error" "I", Cond.fieldLink RX6 156 "GaugeColumns$Trial" "greatest" "I", Cond.fieldLink RX6 159 "GaugeColumns$Trial" "worst" "I", Cond.fieldLink RX6 162 "GaugeColumns$Trial" "length" "I", Cond.methodLink RX6 146 yX5_prepare, Cond.methodLink RX6 152 yX5_run, Cond.methodLink RL 76 yX7_test, Cond.instanceMethod yX7_test, Cond.selects RX7 yX7_test yX7_test, Cond.code yX7_test cX7_test 3 (some .int), Cond.methodLink RL 77 yX6_bestError, Cond.instanceMethod yX6_bestError, Cond.selects RX6 yX6_bestError yX6_bestError, Cond.code yX6_bestError cX6_bestError 7 (some .int), Cond.constant RX6 163 (2147483647), Cond.methodLink RL 80 yX7_bestError, Cond.instanceMethod yX7_bestError, Cond.selects RX7 yX7_bestError yX7_bestError, Cond.code yX7_bestError cX7_bestError 7 (some .int), Cond.methodLink RL 81 yX6_airCosts, Cond.instanceMethod yX6_airCosts]
def wsL_law_r25 : List Cond := [Cond.selects RX6 yX6_airCosts yX6_airCosts, Cond.code yX6_airCosts cX6_airCosts 2 (some .int), Cond.fieldLink RX6 164 "GaugeColumns" "LEAST" "[I", Cond.fieldLink RX6 167 "GaugeColumns" "MOST" "[I", Cond.methodLink RL 84 yX7_airCosts, Cond.instanceMethod yX7_airCosts, Cond.selects RX7 yX7_airCosts yX7_airCosts, Cond.code yX7_airCosts cX7_airCosts 3 (some .int), Cond.methodLink RL 87 yX6_put, Cond.instanceMethod yX6_put, Cond.selects RX6 yX6_put yX6_put, Cond.code yX6_put cX6_put 3 (some .int), Cond.methodLink RX6 170 yX3_append, Cond.instanceMethod yX3_append, Cond.selects RX3 yX3_append yX3_append, Cond.code yX3_append cX3_append 5 (some .int), Cond.fieldLink RX3 23 "GaugeColumns$Pad" "length" "I", Cond.constantLong RX3 27 (255), Cond.methodLink RX3 19 yX3_howMany, Cond.static yX3_howMany, Cond.code yX3_howMany cX3_howMany 5 (some .int), Cond.constantLong RX3 29 (33), Cond.constantLong RX3 31 (126), Cond.methodLink RL 91 yX7_put]
def wsL_law_r26 : List Cond := [Cond.instanceMethod yX7_put, Cond.selects RX7 yX7_put yX7_put, Cond.code yX7_put cX7_put 8 (some .int), Cond.constantLong RX7 169 (255), Cond.methodLink RL 92 yX6_wipe, Cond.instanceMethod yX6_wipe, Cond.selects RX6 yX6_wipe yX6_wipe, Cond.code yX6_wipe cX6_wipe 1 (some .int), Cond.methodLink RX6 174 yX3_clear, Cond.instanceMethod yX3_clear, Cond.selects RX3 yX3_clear yX3_clear, Cond.code yX3_clear cX3_clear 2 (some .int), Cond.methodLink RL 95 yX7_wipe, Cond.instanceMethod yX7_wipe, Cond.selects RX7 yX7_wipe yX7_wipe, Cond.code yX7_wipe cX7_wipe 2 (some .int), Cond.methodLink RL 96 yX6_fault, Cond.instanceMethod yX6_fault, Cond.selects RX6 yX6_fault yX6_fault, Cond.code yX6_fault cX6_fault 1 (some .int), Cond.methodLink RX6 177 yX3_findFault, Cond.instanceMethod yX3_findFault, Cond.selects RX3 yX3_findFault yX3_findFault, Cond.code yX3_findFault cX3_findFault 3 (some .int)]
def wsL_law_r27 : List Cond := [Cond.fieldLink RX3 40 "GaugeColumns$Pad" "cursor" "I", Cond.methodLink RX3 33 yX3_rewind, Cond.instanceMethod yX3_rewind, Cond.selects RX3 yX3_rewind yX3_rewind, Cond.code yX3_rewind cX3_rewind 1 none, Cond.methodLink RX3 36 yX3_nextOrder, Cond.instanceMethod yX3_nextOrder, Cond.selects RX3 yX3_nextOrder yX3_nextOrder, Cond.code yX3_nextOrder cX3_nextOrder 1 (some .boolean), Cond.fieldLink RX3 51 "GaugeColumns$Pad" "kind" "I", Cond.methodLink RX3 43 yX3_pass, Cond.instanceMethod yX3_pass, Cond.selects RX3 yX3_pass yX3_pass, Cond.code yX3_pass cX3_pass 2 (some .boolean), Cond.methodLink RX3 47 yX3_signAt, Cond.instanceMethod yX3_signAt, Cond.selects RX3 yX3_signAt yX3_signAt, Cond.code yX3_signAt cX3_signAt 2 (some .int), Cond.methodLink RX3 54 yX3_readNumber, Cond.instanceMethod yX3_readNumber, Cond.selects RX3 yX3_readNumber yX3_readNumber, Cond.code yX3_readNumber cX3_readNumber 4 (some .boolean), Cond.methodLink RX3 63 yX3_isDigit, Cond.static yX3_isDigit]
def wsL_law_r28 : List Cond := [Cond.code yX3_isDigit cX3_isDigit 1 (some .boolean), Cond.methodLink RX3 57 yX3_readDigit, Cond.instanceMethod yX3_readDigit, Cond.selects RX3 yX3_readDigit yX3_readDigit, Cond.code yX3_readDigit cX3_readDigit 2 (some .boolean), Cond.methodLink RX3 60 yX3_readValue, Cond.instanceMethod yX3_readValue, Cond.selects RX3 yX3_readValue yX3_readValue, Cond.code yX3_readValue cX3_readValue 2 (some .boolean), Cond.methodLink RL 99 yX7_fault, Cond.instanceMethod yX7_fault, Cond.selects RX7 yX7_fault yX7_fault, Cond.code yX7_fault cX7_fault 1 (some .int), Cond.methodLink RX7 205 yX7_findFault, Cond.instanceMethod yX7_findFault, Cond.selects RX7 yX7_findFault yX7_findFault, Cond.code yX7_findFault cX7_findFault 1 (some .int), Cond.fieldLink RX7 171 "GaugeColumnsModel" "at" "I", Cond.methodLink RX7 202 yX7_readsOrder, Cond.instanceMethod yX7_readsOrder, Cond.selects RX7 yX7_readsOrder yX7_readsOrder, Cond.code yX7_readsOrder cX7_readsOrder 1 (some .boolean), Cond.fieldLink RX7 195 "GaugeColumnsModel" "letter" "I", Cond.fieldLink RX7 186 "GaugeColumnsModel" "first" "I"]
def wsL_law_r29 : List Cond := [Cond.methodLink RX7 174 yX7_character, Cond.instanceMethod yX7_character, Cond.selects RX7 yX7_character yX7_character, Cond.code yX7_character cX7_character 2 (some .int), Cond.methodLink RX7 183 yX7_takeNumber, Cond.instanceMethod yX7_takeNumber, Cond.selects RX7 yX7_takeNumber yX7_takeNumber, Cond.code yX7_takeNumber cX7_takeNumber 2 (some .int), Cond.methodLink RX7 177 yX7_takeDigit, Cond.instanceMethod yX7_takeDigit, Cond.selects RX7 yX7_takeDigit yX7_takeDigit, Cond.code yX7_takeDigit cX7_takeDigit 2 (some .int), Cond.methodLink RX7 198 yX7_readsGauge, Cond.instanceMethod yX7_readsGauge, Cond.selects RX7 yX7_readsGauge yX7_readsGauge, Cond.code yX7_readsGauge cX7_readsGauge 3 (some .boolean), Cond.fieldLink RX7 189 "GaugeColumnsModel" "second" "I", Cond.fieldLink RX7 192 "GaugeColumnsModel" "third" "I", Cond.methodLink RX7 180 yX7_isNext, Cond.instanceMethod yX7_isNext, Cond.selects RX7 yX7_isNext yX7_isNext, Cond.code yX7_isNext cX7_isNext 3 (some .boolean), Cond.methodLink RL 100 yX6_carryOut, Cond.instanceMethod yX6_carryOut]
def wsL_law_r30 : List Cond := [Cond.selects RX6 yX6_carryOut yX6_carryOut, Cond.code yX6_carryOut cX6_carryOut 2 (some .int), Cond.methodLink RX6 180 yX3_rewind, Cond.methodLink RX6 183 yX3_nextOrder, Cond.methodLink RX6 187 yX6_carryOutOrder, Cond.instanceMethod yX6_carryOutOrder, Cond.selects RX6 yX6_carryOutOrder yX6_carryOutOrder, Cond.code yX6_carryOutOrder cX6_carryOutOrder 2 (some .int), Cond.fieldLink RX6 190 "GaugeColumns$Pad" "numbers" "[I", Cond.fieldLink RX6 193 "GaugeColumns$Pad" "kind" "I", Cond.methodLink RL 103 yX7_carryOut, Cond.instanceMethod yX7_carryOut, Cond.selects RX7 yX7_carryOut yX7_carryOut, Cond.code yX7_carryOut cX7_carryOut 3 (some .int), Cond.methodLink RX7 208 yX7_whyNotDone, Cond.instanceMethod yX7_whyNotDone, Cond.selects RX7 yX7_whyNotDone yX7_whyNotDone, Cond.code yX7_whyNotDone cX7_whyNotDone 1 (some .int), Cond.methodLink RX7 211 yX7_does, Cond.instanceMethod yX7_does, Cond.selects RX7 yX7_does yX7_does, Cond.code yX7_does cX7_does 1 none, Cond.methodLink RL 104 yX6_undo, Cond.instanceMethod yX6_undo]
def wsL_law_r31 : List Cond := [Cond.selects RX6 yX6_undo yX6_undo, Cond.code yX6_undo cX6_undo 1 (some .int), Cond.methodLink RX6 196 yX2_stepBack, Cond.instanceMethod yX2_stepBack, Cond.selects RX2 yX2_stepBack yX2_stepBack, Cond.code yX2_stepBack cX2_stepBack 2 (some .int), Cond.methodLink RL 107 yX7_undo, Cond.instanceMethod yX7_undo, Cond.selects RX7 yX7_undo yX7_undo, Cond.code yX7_undo cX7_undo 1 (some .int), Cond.methodLink RL 108 yX6_save, Cond.instanceMethod yX6_save, Cond.selects RX6 yX6_save yX6_save, Cond.code yX6_save cX6_save 2 (some .int), Cond.methodLink RX6 200 yX4_copyFrom, Cond.methodLink RL 111 yX7_save, Cond.instanceMethod yX7_save, Cond.selects RX7 yX7_save yX7_save, Cond.code yX7_save cX7_save 2 (some .int), Cond.methodLink RL 112 yX6_restore, Cond.instanceMethod yX6_restore, Cond.selects RX6 yX6_restore yX6_restore, Cond.code yX6_restore cX6_restore 2 (some .int), Cond.methodLink RL 115 yX7_restore]
def wsL_law_r32 : List Cond := [Cond.instanceMethod yX7_restore, Cond.selects RX7 yX7_restore yX7_restore, Cond.code yX7_restore cX7_restore 2 (some .int)]
def wsL_law : List Cond := (wsL_law_r1 ++ (wsL_law_r2 ++ (wsL_law_r3 ++ (wsL_law_r4 ++ (wsL_law_r5 ++ (wsL_law_r6 ++ (wsL_law_r7 ++ (wsL_law_r8 ++ (wsL_law_r9 ++ (wsL_law_r10 ++ (wsL_law_r11 ++ (wsL_law_r12 ++ (wsL_law_r13 ++ (wsL_law_r14 ++ (wsL_law_r15 ++ (wsL_law_r16 ++ (wsL_law_r17 ++ (wsL_law_r18 ++ (wsL_law_r19 ++ (wsL_law_r20 ++ (wsL_law_r21 ++ (wsL_law_r22 ++ (wsL_law_r23 ++ (wsL_law_r24 ++ (wsL_law_r25 ++ (wsL_law_r26 ++ (wsL_law_r27 ++ (wsL_law_r28 ++ (wsL_law_r29 ++ (wsL_law_r30 ++ (wsL_law_r31 ++ wsL_law_r32))))))))))))))))))))))))))))))) ++ wsX60 ++ wsX70 ++ wsX40 ++ wsX20 ++ wsX50 ++ wsX30 ++ wsX10 ++ wsX00 ++ ([] : List Cond)
/-! ===== END printed ===== -/
theorem wc_1 : ∀ w ∈ wsL_law_r1, w ∈ wsL_law := fun w h => List.mem_append_left _ (List.mem_append_left _ (List.mem_append_left _ (List.mem_append_left _ (List.mem_append_left _ (List.mem_append_left _ (List.mem_append_left _ (List.mem_append_left _ (List.mem_append_left _ (List.mem_append_left _ h)))))))))
theorem wc_2 : ∀ w ∈ wsL_law_r2, w ∈ wsL_law := fun w h => List.mem_append_left _ (List.mem_append_left _ (List.mem_append_left _ (List.mem_append_left _ (List.mem_append_left _ (List.mem_append_left _ (List.mem_append_left _ (List.mem_append_left _ (List.mem_append_left _ (List.mem_append_right _ (List.mem_append_left _ h))))))))))
theorem wc_3 : ∀ w ∈ wsL_law_r3, w ∈ wsL_law := fun w h => List.mem_append_left _ (List.mem_append_left _ (List.mem_append_left _ (List.mem_append_left _ (List.mem_append_left _ (List.mem_append_left _ (List.mem_append_left _ (List.mem_append_left _ (List.mem_append_left _ (List.mem_append_right _ (List.mem_append_right _ (List.mem_append_left _ h)))))))))))
theorem wc_4 : ∀ w ∈ wsL_law_r4, w ∈ wsL_law := fun w h => List.mem_append_left _ (List.mem_append_left _ (List.mem_append_left _ (List.mem_append_left _ (List.mem_append_left _ (List.mem_append_left _ (List.mem_append_left _ (List.mem_append_left _ (List.mem_append_left _ (List.mem_append_right _ (List.mem_append_right _ (List.mem_append_right _ (List.mem_append_left _ h))))))))))))
theorem wc_5 : ∀ w ∈ wsL_law_r5, w ∈ wsL_law := fun w h => List.mem_append_left _ (List.mem_append_left _ (List.mem_append_left _ (List.mem_append_left _ (List.mem_append_left _ (List.mem_append_left _ (List.mem_append_left _ (List.mem_append_left _ (List.mem_append_left _ (List.mem_append_right _ (List.mem_append_right _ (List.mem_append_right _ (List.mem_append_right _ (List.mem_append_left _ h)))))))))))))
theorem wc_6 : ∀ w ∈ wsL_law_r6, w ∈ wsL_law := fun w h => List.mem_append_left _ (List.mem_append_left _ (List.mem_append_left _ (List.mem_append_left _ (List.mem_append_left _ (List.mem_append_left _ (List.mem_append_left _ (List.mem_append_left _ (List.mem_append_left _ (List.mem_append_right _ (List.mem_append_right _ (List.mem_append_right _ (List.mem_append_right _ (List.mem_append_right _ (List.mem_append_left _ h))))))))))))))
theorem wc_7 : ∀ w ∈ wsL_law_r7, w ∈ wsL_law := fun w h => List.mem_append_left _ (List.mem_append_left _ (List.mem_append_left _ (List.mem_append_left _ (List.mem_append_left _ (List.mem_append_left _ (List.mem_append_left _ (List.mem_append_left _ (List.mem_append_left _ (List.mem_append_right _ (List.mem_append_right _ (List.mem_append_right _ (List.mem_append_right _ (List.mem_append_right _ (List.mem_append_right _ (List.mem_append_left _ h)))))))))))))))
theorem wc_8 : ∀ w ∈ wsL_law_r8, w ∈ wsL_law := fun w h => List.mem_append_left _ (List.mem_append_left _ (List.mem_append_left _ (List.mem_append_left _ (List.mem_append_left _ (List.mem_append_left _ (List.mem_append_left _ (List.mem_append_left _ (List.mem_append_left _ (List.mem_append_right _ (List.mem_append_right _ (List.mem_append_right _ (List.mem_append_right _ (List.mem_append_right _ (List.mem_append_right _ (List.mem_append_right _ (List.mem_append_left _ h))))))))))))))))
theorem wc_9 : ∀ w ∈ wsL_law_r9, w ∈ wsL_law := fun w h => List.mem_append_left _ (List.mem_append_left _ (List.mem_append_left _ (List.mem_append_left _ (List.mem_append_left _ (List.mem_append_left _ (List.mem_append_left _ (List.mem_append_left _ (List.mem_append_left _ (List.mem_append_right _ (List.mem_append_right _ (List.mem_append_right _ (List.mem_append_right _ (List.mem_append_right _ (List.mem_append_right _ (List.mem_append_right _ (List.mem_append_right _ (List.mem_append_left _ h)))))))))))))))))
theorem wc_10 : ∀ w ∈ wsL_law_r10, w ∈ wsL_law := fun w h => List.mem_append_left _ (List.mem_append_left _ (List.mem_append_left _ (List.mem_append_left _ (List.mem_append_left _ (List.mem_append_left _ (List.mem_append_left _ (List.mem_append_left _ (List.mem_append_left _ (List.mem_append_right _ (List.mem_append_right _ (List.mem_append_right _ (List.mem_append_right _ (List.mem_append_right _ (List.mem_append_right _ (List.mem_append_right _ (List.mem_append_right _ (List.mem_append_right _ (List.mem_append_left _ h))))))))))))))))))
theorem wc_11 : ∀ w ∈ wsL_law_r11, w ∈ wsL_law := fun w h => List.mem_append_left _ (List.mem_append_left _ (List.mem_append_left _ (List.mem_append_left _ (List.mem_append_left _ (List.mem_append_left _ (List.mem_append_left _ (List.mem_append_left _ (List.mem_append_left _ (List.mem_append_right _ (List.mem_append_right _ (List.mem_append_right _ (List.mem_append_right _ (List.mem_append_right _ (List.mem_append_right _ (List.mem_append_right _ (List.mem_append_right _ (List.mem_append_right _ (List.mem_append_right _ (List.mem_append_left _ h)))))))))))))))))))
theorem wc_12 : ∀ w ∈ wsL_law_r12, w ∈ wsL_law := fun w h => List.mem_append_left _ (List.mem_append_left _ (List.mem_append_left _ (List.mem_append_left _ (List.mem_append_left _ (List.mem_append_left _ (List.mem_append_left _ (List.mem_append_left _ (List.mem_append_left _ (List.mem_append_right _ (List.mem_append_right _ (List.mem_append_right _ (List.mem_append_right _ (List.mem_append_right _ (List.mem_append_right _ (List.mem_append_right _ (List.mem_append_right _ (List.mem_append_right _ (List.mem_append_right _ (List.mem_append_right _ (List.mem_append_left _ h))))))))))))))))))))
theorem wc_13 : ∀ w ∈ wsL_law_r13, w ∈ wsL_law := fun w h => List.mem_append_left _ (List.mem_append_left _ (List.mem_append_left _ (List.mem_append_left _ (List.mem_append_left _ (List.mem_append_left _ (List.mem_append_left _ (List.mem_append_left _ (List.mem_append_left _ (List.mem_append_right _ (List.mem_append_right _ (List.mem_append_right _ (List.mem_append_right _ (List.mem_append_right _ (List.mem_append_right _ (List.mem_append_right _ (List.mem_append_right _ (List.mem_append_right _ (List.mem_append_right _ (List.mem_append_right _ (List.mem_append_right _ (List.mem_append_left _ h)))))))))))))))))))))
theorem wc_14 : ∀ w ∈ wsL_law_r14, w ∈ wsL_law := fun w h => List.mem_append_left _ (List.mem_append_left _ (List.mem_append_left _ (List.mem_append_left _ (List.mem_append_left _ (List.mem_append_left _ (List.mem_append_left _ (List.mem_append_left _ (List.mem_append_left _ (List.mem_append_right _ (List.mem_append_right _ (List.mem_append_right _ (List.mem_append_right _ (List.mem_append_right _ (List.mem_append_right _ (List.mem_append_right _ (List.mem_append_right _ (List.mem_append_right _ (List.mem_append_right _ (List.mem_append_right _ (List.mem_append_right _ (List.mem_append_right _ (List.mem_append_left _ h))))))))))))))))))))))
theorem wc_15 : ∀ w ∈ wsL_law_r15, w ∈ wsL_law := fun w h => List.mem_append_left _ (List.mem_append_left _ (List.mem_append_left _ (List.mem_append_left _ (List.mem_append_left _ (List.mem_append_left _ (List.mem_append_left _ (List.mem_append_left _ (List.mem_append_left _ (List.mem_append_right _ (List.mem_append_right _ (List.mem_append_right _ (List.mem_append_right _ (List.mem_append_right _ (List.mem_append_right _ (List.mem_append_right _ (List.mem_append_right _ (List.mem_append_right _ (List.mem_append_right _ (List.mem_append_right _ (List.mem_append_right _ (List.mem_append_right _ (List.mem_append_right _ (List.mem_append_left _ h)))))))))))))))))))))))
theorem wc_16 : ∀ w ∈ wsL_law_r16, w ∈ wsL_law := fun w h => List.mem_append_left _ (List.mem_append_left _ (List.mem_append_left _ (List.mem_append_left _ (List.mem_append_left _ (List.mem_append_left _ (List.mem_append_left _ (List.mem_append_left _ (List.mem_append_left _ (List.mem_append_right _ (List.mem_append_right _ (List.mem_append_right _ (List.mem_append_right _ (List.mem_append_right _ (List.mem_append_right _ (List.mem_append_right _ (List.mem_append_right _ (List.mem_append_right _ (List.mem_append_right _ (List.mem_append_right _ (List.mem_append_right _ (List.mem_append_right _ (List.mem_append_right _ (List.mem_append_right _ (List.mem_append_left _ h))))))))))))))))))))))))
theorem wc_17 : ∀ w ∈ wsL_law_r17, w ∈ wsL_law := fun w h => List.mem_append_left _ (List.mem_append_left _ (List.mem_append_left _ (List.mem_append_left _ (List.mem_append_left _ (List.mem_append_left _ (List.mem_append_left _ (List.mem_append_left _ (List.mem_append_left _ (List.mem_append_right _ (List.mem_append_right _ (List.mem_append_right _ (List.mem_append_right _ (List.mem_append_right _ (List.mem_append_right _ (List.mem_append_right _ (List.mem_append_right _ (List.mem_append_right _ (List.mem_append_right _ (List.mem_append_right _ (List.mem_append_right _ (List.mem_append_right _ (List.mem_append_right _ (List.mem_append_right _ (List.mem_append_right _ (List.mem_append_left _ h)))))))))))))))))))))))))
theorem wc_18 : ∀ w ∈ wsL_law_r18, w ∈ wsL_law := fun w h => List.mem_append_left _ (List.mem_append_left _ (List.mem_append_left _ (List.mem_append_left _ (List.mem_append_left _ (List.mem_append_left _ (List.mem_append_left _ (List.mem_append_left _ (List.mem_append_left _ (List.mem_append_right _ (List.mem_append_right _ (List.mem_append_right _ (List.mem_append_right _ (List.mem_append_right _ (List.mem_append_right _ (List.mem_append_right _ (List.mem_append_right _ (List.mem_append_right _ (List.mem_append_right _ (List.mem_append_right _ (List.mem_append_right _ (List.mem_append_right _ (List.mem_append_right _ (List.mem_append_right _ (List.mem_append_right _ (List.mem_append_right _ (List.mem_append_left _ h))))))))))))))))))))))))))
theorem wc_19 : ∀ w ∈ wsL_law_r19, w ∈ wsL_law := fun w h => List.mem_append_left _ (List.mem_append_left _ (List.mem_append_left _ (List.mem_append_left _ (List.mem_append_left _ (List.mem_append_left _ (List.mem_append_left _ (List.mem_append_left _ (List.mem_append_left _ (List.mem_append_right _ (List.mem_append_right _ (List.mem_append_right _ (List.mem_append_right _ (List.mem_append_right _ (List.mem_append_right _ (List.mem_append_right _ (List.mem_append_right _ (List.mem_append_right _ (List.mem_append_right _ (List.mem_append_right _ (List.mem_append_right _ (List.mem_append_right _ (List.mem_append_right _ (List.mem_append_right _ (List.mem_append_right _ (List.mem_append_right _ (List.mem_append_right _ (List.mem_append_left _ h)))))))))))))))))))))))))))
theorem wc_20 : ∀ w ∈ wsL_law_r20, w ∈ wsL_law := fun w h => List.mem_append_left _ (List.mem_append_left _ (List.mem_append_left _ (List.mem_append_left _ (List.mem_append_left _ (List.mem_append_left _ (List.mem_append_left _ (List.mem_append_left _ (List.mem_append_left _ (List.mem_append_right _ (List.mem_append_right _ (List.mem_append_right _ (List.mem_append_right _ (List.mem_append_right _ (List.mem_append_right _ (List.mem_append_right _ (List.mem_append_right _ (List.mem_append_right _ (List.mem_append_right _ (List.mem_append_right _ (List.mem_append_right _ (List.mem_append_right _ (List.mem_append_right _ (List.mem_append_right _ (List.mem_append_right _ (List.mem_append_right _ (List.mem_append_right _ (List.mem_append_right _ (List.mem_append_left _ h))))))))))))))))))))))))))))
theorem wc_21 : ∀ w ∈ wsL_law_r21, w ∈ wsL_law := fun w h => List.mem_append_left _ (List.mem_append_left _ (List.mem_append_left _ (List.mem_append_left _ (List.mem_append_left _ (List.mem_append_left _ (List.mem_append_left _ (List.mem_append_left _ (List.mem_append_left _ (List.mem_append_right _ (List.mem_append_right _ (List.mem_append_right _ (List.mem_append_right _ (List.mem_append_right _ (List.mem_append_right _ (List.mem_append_right _ (List.mem_append_right _ (List.mem_append_right _ (List.mem_append_right _ (List.mem_append_right _ (List.mem_append_right _ (List.mem_append_right _ (List.mem_append_right _ (List.mem_append_right _ (List.mem_append_right _ (List.mem_append_right _ (List.mem_append_right _ (List.mem_append_right _ (List.mem_append_right _ (List.mem_append_left _ h)))))))))))))))))))))))))))))
theorem wc_22 : ∀ w ∈ wsL_law_r22, w ∈ wsL_law := fun w h => List.mem_append_left _ (List.mem_append_left _ (List.mem_append_left _ (List.mem_append_left _ (List.mem_append_left _ (List.mem_append_left _ (List.mem_append_left _ (List.mem_append_left _ (List.mem_append_left _ (List.mem_append_right _ (List.mem_append_right _ (List.mem_append_right _ (List.mem_append_right _ (List.mem_append_right _ (List.mem_append_right _ (List.mem_append_right _ (List.mem_append_right _ (List.mem_append_right _ (List.mem_append_right _ (List.mem_append_right _ (List.mem_append_right _ (List.mem_append_right _ (List.mem_append_right _ (List.mem_append_right _ (List.mem_append_right _ (List.mem_append_right _ (List.mem_append_right _ (List.mem_append_right _ (List.mem_append_right _ (List.mem_append_right _ (List.mem_append_left _ h))))))))))))))))))))))))))))))
theorem wc_23 : ∀ w ∈ wsL_law_r23, w ∈ wsL_law := fun w h => List.mem_append_left _ (List.mem_append_left _ (List.mem_append_left _ (List.mem_append_left _ (List.mem_append_left _ (List.mem_append_left _ (List.mem_append_left _ (List.mem_append_left _ (List.mem_append_left _ (List.mem_append_right _ (List.mem_append_right _ (List.mem_append_right _ (List.mem_append_right _ (List.mem_append_right _ (List.mem_append_right _ (List.mem_append_right _ (List.mem_append_right _ (List.mem_append_right _ (List.mem_append_right _ (List.mem_append_right _ (List.mem_append_right _ (List.mem_append_right _ (List.mem_append_right _ (List.mem_append_right _ (List.mem_append_right _ (List.mem_append_right _ (List.mem_append_right _ (List.mem_append_right _ (List.mem_append_right _ (List.mem_append_right _ (List.mem_append_right _ (List.mem_append_left _ h)))))))))))))))))))))))))))))))
theorem wc_24 : ∀ w ∈ wsL_law_r24, w ∈ wsL_law := fun w h => List.mem_append_left _ (List.mem_append_left _ (List.mem_append_left _ (List.mem_append_left _ (List.mem_append_left _ (List.mem_append_left _ (List.mem_append_left _ (List.mem_append_left _ (List.mem_append_left _ (List.mem_append_right _ (List.mem_append_right _ (List.mem_append_right _ (List.mem_append_right _ (List.mem_append_right _ (List.mem_append_right _ (List.mem_append_right _ (List.mem_append_right _ (List.mem_append_right _ (List.mem_append_right _ (List.mem_append_right _ (List.mem_append_right _ (List.mem_append_right _ (List.mem_append_right _ (List.mem_append_right _ (List.mem_append_right _ (List.mem_append_right _ (List.mem_append_right _ (List.mem_append_right _ (List.mem_append_right _ (List.mem_append_right _ (List.mem_append_right _ (List.mem_append_right _ (List.mem_append_left _ h))))))))))))))))))))))))))))))))
theorem wc_25 : ∀ w ∈ wsL_law_r25, w ∈ wsL_law := fun w h => List.mem_append_left _ (List.mem_append_left _ (List.mem_append_left _ (List.mem_append_left _ (List.mem_append_left _ (List.mem_append_left _ (List.mem_append_left _ (List.mem_append_left _ (List.mem_append_left _ (List.mem_append_right _ (List.mem_append_right _ (List.mem_append_right _ (List.mem_append_right _ (List.mem_append_right _ (List.mem_append_right _ (List.mem_append_right _ (List.mem_append_right _ (List.mem_append_right _ (List.mem_append_right _ (List.mem_append_right _ (List.mem_append_right _ (List.mem_append_right _ (List.mem_append_right _ (List.mem_append_right _ (List.mem_append_right _ (List.mem_append_right _ (List.mem_append_right _ (List.mem_append_right _ (List.mem_append_right _ (List.mem_append_right _ (List.mem_append_right _ (List.mem_append_right _ (List.mem_append_right _ (List.mem_append_left _ h)))))))))))))))))))))))))))))))))
theorem wc_26 : ∀ w ∈ wsL_law_r26, w ∈ wsL_law := fun w h => List.mem_append_left _ (List.mem_append_left _ (List.mem_append_left _ (List.mem_append_left _ (List.mem_append_left _ (List.mem_append_left _ (List.mem_append_left _ (List.mem_append_left _ (List.mem_append_left _ (List.mem_append_right _ (List.mem_append_right _ (List.mem_append_right _ (List.mem_append_right _ (List.mem_append_right _ (List.mem_append_right _ (List.mem_append_right _ (List.mem_append_right _ (List.mem_append_right _ (List.mem_append_right _ (List.mem_append_right _ (List.mem_append_right _ (List.mem_append_right _ (List.mem_append_right _ (List.mem_append_right _ (List.mem_append_right _ (List.mem_append_right _ (List.mem_append_right _ (List.mem_append_right _ (List.mem_append_right _ (List.mem_append_right _ (List.mem_append_right _ (List.mem_append_right _ (List.mem_append_right _ (List.mem_append_right _ (List.mem_append_left _ h))))))))))))))))))))))))))))))))))
theorem wc_27 : ∀ w ∈ wsL_law_r27, w ∈ wsL_law := fun w h => List.mem_append_left _ (List.mem_append_left _ (List.mem_append_left _ (List.mem_append_left _ (List.mem_append_left _ (List.mem_append_left _ (List.mem_append_left _ (List.mem_append_left _ (List.mem_append_left _ (List.mem_append_right _ (List.mem_append_right _ (List.mem_append_right _ (List.mem_append_right _ (List.mem_append_right _ (List.mem_append_right _ (List.mem_append_right _ (List.mem_append_right _ (List.mem_append_right _ (List.mem_append_right _ (List.mem_append_right _ (List.mem_append_right _ (List.mem_append_right _ (List.mem_append_right _ (List.mem_append_right _ (List.mem_append_right _ (List.mem_append_right _ (List.mem_append_right _ (List.mem_append_right _ (List.mem_append_right _ (List.mem_append_right _ (List.mem_append_right _ (List.mem_append_right _ (List.mem_append_right _ (List.mem_append_right _ (List.mem_append_right _ (List.mem_append_left _ h)))))))))))))))))))))))))))))))))))
theorem wc_28 : ∀ w ∈ wsL_law_r28, w ∈ wsL_law := fun w h => List.mem_append_left _ (List.mem_append_left _ (List.mem_append_left _ (List.mem_append_left _ (List.mem_append_left _ (List.mem_append_left _ (List.mem_append_left _ (List.mem_append_left _ (List.mem_append_left _ (List.mem_append_right _ (List.mem_append_right _ (List.mem_append_right _ (List.mem_append_right _ (List.mem_append_right _ (List.mem_append_right _ (List.mem_append_right _ (List.mem_append_right _ (List.mem_append_right _ (List.mem_append_right _ (List.mem_append_right _ (List.mem_append_right _ (List.mem_append_right _ (List.mem_append_right _ (List.mem_append_right _ (List.mem_append_right _ (List.mem_append_right _ (List.mem_append_right _ (List.mem_append_right _ (List.mem_append_right _ (List.mem_append_right _ (List.mem_append_right _ (List.mem_append_right _ (List.mem_append_right _ (List.mem_append_right _ (List.mem_append_right _ (List.mem_append_right _ (List.mem_append_left _ h))))))))))))))))))))))))))))))))))))
theorem wc_29 : ∀ w ∈ wsL_law_r29, w ∈ wsL_law := fun w h => List.mem_append_left _ (List.mem_append_left _ (List.mem_append_left _ (List.mem_append_left _ (List.mem_append_left _ (List.mem_append_left _ (List.mem_append_left _ (List.mem_append_left _ (List.mem_append_left _ (List.mem_append_right _ (List.mem_append_right _ (List.mem_append_right _ (List.mem_append_right _ (List.mem_append_right _ (List.mem_append_right _ (List.mem_append_right _ (List.mem_append_right _ (List.mem_append_right _ (List.mem_append_right _ (List.mem_append_right _ (List.mem_append_right _ (List.mem_append_right _ (List.mem_append_right _ (List.mem_append_right _ (List.mem_append_right _ (List.mem_append_right _ (List.mem_append_right _ (List.mem_append_right _ (List.mem_append_right _ (List.mem_append_right _ (List.mem_append_right _ (List.mem_append_right _ (List.mem_append_right _ (List.mem_append_right _ (List.mem_append_right _ (List.mem_append_right _ (List.mem_append_right _ (List.mem_append_left _ h)))))))))))))))))))))))))))))))))))))
theorem wc_30 : ∀ w ∈ wsL_law_r30, w ∈ wsL_law := fun w h => List.mem_append_left _ (List.mem_append_left _ (List.mem_append_left _ (List.mem_append_left _ (List.mem_append_left _ (List.mem_append_left _ (List.mem_append_left _ (List.mem_append_left _ (List.mem_append_left _ (List.mem_append_right _ (List.mem_append_right _ (List.mem_append_right _ (List.mem_append_right _ (List.mem_append_right _ (List.mem_append_right _ (List.mem_append_right _ (List.mem_append_right _ (List.mem_append_right _ (List.mem_append_right _ (List.mem_append_right _ (List.mem_append_right _ (List.mem_append_right _ (List.mem_append_right _ (List.mem_append_right _ (List.mem_append_right _ (List.mem_append_right _ (List.mem_append_right _ (List.mem_append_right _ (List.mem_append_right _ (List.mem_append_right _ (List.mem_append_right _ (List.mem_append_right _ (List.mem_append_right _ (List.mem_append_right _ (List.mem_append_right _ (List.mem_append_right _ (List.mem_append_right _ (List.mem_append_right _ (List.mem_append_left _ h))))))))))))))))))))))))))))))))))))))
theorem wc_31 : ∀ w ∈ wsL_law_r31, w ∈ wsL_law := fun w h => List.mem_append_left _ (List.mem_append_left _ (List.mem_append_left _ (List.mem_append_left _ (List.mem_append_left _ (List.mem_append_left _ (List.mem_append_left _ (List.mem_append_left _ (List.mem_append_left _ (List.mem_append_right _ (List.mem_append_right _ (List.mem_append_right _ (List.mem_append_right _ (List.mem_append_right _ (List.mem_append_right _ (List.mem_append_right _ (List.mem_append_right _ (List.mem_append_right _ (List.mem_append_right _ (List.mem_append_right _ (List.mem_append_right _ (List.mem_append_right _ (List.mem_append_right _ (List.mem_append_right _ (List.mem_append_right _ (List.mem_append_right _ (List.mem_append_right _ (List.mem_append_right _ (List.mem_append_right _ (List.mem_append_right _ (List.mem_append_right _ (List.mem_append_right _ (List.mem_append_right _ (List.mem_append_right _ (List.mem_append_right _ (List.mem_append_right _ (List.mem_append_right _ (List.mem_append_right _ (List.mem_append_right _ (List.mem_append_left _ h)))))))))))))))))))))))))))))))))))))))
theorem wc_32 : ∀ w ∈ wsL_law_r32, w ∈ wsL_law := fun w h => List.mem_append_left _ (List.mem_append_left _ (List.mem_append_left _ (List.mem_append_left _ (List.mem_append_left _ (List.mem_append_left _ (List.mem_append_left _ (List.mem_append_left _ (List.mem_append_left _ (List.mem_append_right _ (List.mem_append_right _ (List.mem_append_right _ (List.mem_append_right _ (List.mem_append_right _ (List.mem_append_right _ (List.mem_append_right _ (List.mem_append_right _ (List.mem_append_right _ (List.mem_append_right _ (List.mem_append_right _ (List.mem_append_right _ (List.mem_append_right _ (List.mem_append_right _ (List.mem_append_right _ (List.mem_append_right _ (List.mem_append_right _ (List.mem_append_right _ (List.mem_append_right _ (List.mem_append_right _ (List.mem_append_right _ (List.mem_append_right _ (List.mem_append_right _ (List.mem_append_right _ (List.mem_append_right _ (List.mem_append_right _ (List.mem_append_right _ (List.mem_append_right _ (List.mem_append_right _ (List.mem_append_right _ (List.mem_append_right _ (h))))))))))))))))))))))))))))))))))))))))
theorem wl_6 : ∀ w ∈ wsX60, w ∈ wsL_law := fun w h => List.mem_append_left _ (List.mem_append_left _ (List.mem_append_left _ (List.mem_append_left _ (List.mem_append_left _ (List.mem_append_left _ (List.mem_append_left _ (List.mem_append_left _ (List.mem_append_right _ h))))))))
theorem wl_7 : ∀ w ∈ wsX70, w ∈ wsL_law := fun w h => List.mem_append_left _ (List.mem_append_left _ (List.mem_append_left _ (List.mem_append_left _ (List.mem_append_left _ (List.mem_append_left _ (List.mem_append_left _ (List.mem_append_right _ h)))))))
theorem wl_4 : ∀ w ∈ wsX40, w ∈ wsL_law := fun w h => List.mem_append_left _ (List.mem_append_left _ (List.mem_append_left _ (List.mem_append_left _ (List.mem_append_left _ (List.mem_append_left _ (List.mem_append_right _ h))))))
theorem wl_2 : ∀ w ∈ wsX20, w ∈ wsL_law := fun w h => List.mem_append_left _ (List.mem_append_left _ (List.mem_append_left _ (List.mem_append_left _ (List.mem_append_left _ (List.mem_append_right _ h)))))
theorem wl_5 : ∀ w ∈ wsX50, w ∈ wsL_law := fun w h => List.mem_append_left _ (List.mem_append_left _ (List.mem_append_left _ (List.mem_append_left _ (List.mem_append_right _ h))))
theorem wl_3 : ∀ w ∈ wsX30, w ∈ wsL_law := fun w h => List.mem_append_left _ (List.mem_append_left _ (List.mem_append_left _ (List.mem_append_right _ h)))
theorem wl_1 : ∀ w ∈ wsX10, w ∈ wsL_law := fun w h => List.mem_append_left _ (List.mem_append_left _ (List.mem_append_right _ h))
theorem wl_0 : ∀ w ∈ wsX00, w ∈ wsL_law := fun w h => List.mem_append_left _ (List.mem_append_right _ h)
theorem wq_1_0 : Cond.classLink RL 7 RX6 ∈ wsL_law := wc_1 _ (List.mem_of_getElem? (i := 0) rfl)
theorem wq_1_1 : Cond.instantiable RX6 5 ∈ wsL_law := wc_1 _ (List.mem_of_getElem? (i := 1) rfl)
theorem wq_1_2 : Cond.initialized RX6 ∈ wsL_law := wc_1 _ (List.mem_of_getElem? (i := 2) rfl)
theorem wq_1_3 : Cond.classLink RL 10 RX7 ∈ wsL_law := wc_1 _ (List.mem_of_getElem? (i := 3) rfl)
theorem wq_1_4 : Cond.instantiable RX7 16 ∈ wsL_law := wc_1 _ (List.mem_of_getElem? (i := 4) rfl)
theorem wq_1_5 : Cond.initialized RX7 ∈ wsL_law := wc_1 _ (List.mem_of_getElem? (i := 5) rfl)
theorem wq_1_6 : Cond.constantLong RL 85 (4294967295) ∈ wsL_law := wc_1 _ (List.mem_of_getElem? (i := 6) rfl)
theorem wq_1_7 : Cond.methodLink RL 9 yX6_init ∈ wsL_law := wc_1 _ (List.mem_of_getElem? (i := 7) rfl)
theorem wq_1_8 : Cond.instanceMethod yX6_init ∈ wsL_law := wc_1 _ (List.mem_of_getElem? (i := 8) rfl)
theorem wq_1_9 : Cond.code yX6_init cX6_init 1 none ∈ wsL_law := wc_1 _ (List.mem_of_getElem? (i := 9) rfl)
theorem wq_1_10 : Cond.methodLink RX6 1 objectInit ∈ wsL_law := wc_1 _ (List.mem_of_getElem? (i := 10) rfl)
theorem wq_1_11 : Cond.instanceMethod objectInit ∈ wsL_law := wc_1 _ (List.mem_of_getElem? (i := 11) rfl)
theorem wq_1_12 : Cond.code objectInit ⟨#[0xb1]⟩ 1 none ∈ wsL_law := wc_1 _ (List.mem_of_getElem? (i := 12) rfl)
theorem wq_1_13 : Cond.classLink RX6 7 RX4 ∈ wsL_law := wc_1 _ (List.mem_of_getElem? (i := 13) rfl)
theorem wq_1_14 : Cond.instantiable RX4 6 ∈ wsL_law := wc_1 _ (List.mem_of_getElem? (i := 14) rfl)
theorem wq_1_15 : Cond.initialized RX4 ∈ wsL_law := wc_1 _ (List.mem_of_getElem? (i := 15) rfl)
theorem wq_1_16 : Cond.fieldLink RX6 10 "GaugeColumns" "now" "LGaugeColumns$Tester;" ∈ wsL_law := wc_1 _ (List.mem_of_getElem? (i := 16) rfl)
theorem wq_1_17 : Cond.classLink RX6 16 RX2 ∈ wsL_law := wc_1 _ (List.mem_of_getElem? (i := 17) rfl)
theorem wq_1_18 : Cond.instantiable RX2 3 ∈ wsL_law := wc_1 _ (List.mem_of_getElem? (i := 18) rfl)
theorem wq_1_19 : Cond.initialized RX2 ∈ wsL_law := wc_1 _ (List.mem_of_getElem? (i := 19) rfl)
theorem wq_1_20 : Cond.fieldLink RX6 19 "GaugeColumns" "history" "LGaugeColumns$History;" ∈ wsL_law := wc_1 _ (List.mem_of_getElem? (i := 20) rfl)
theorem wq_1_21 : Cond.fieldLink RX6 23 "GaugeColumns" "slots" "[LGaugeColumns$Tester;" ∈ wsL_law := wc_1 _ (List.mem_of_getElem? (i := 21) rfl)
theorem wq_1_22 : Cond.classLink RX6 27 RX5 ∈ wsL_law := wc_1 _ (List.mem_of_getElem? (i := 22) rfl)
theorem wq_1_23 : Cond.instantiable RX5 7 ∈ wsL_law := wc_1 _ (List.mem_of_getElem? (i := 23) rfl)
theorem wq_2_0 : Cond.initialized RX5 ∈ wsL_law := wc_2 _ (List.mem_of_getElem? (i := 0) rfl)
theorem wq_2_1 : Cond.fieldLink RX6 30 "GaugeColumns" "trial" "LGaugeColumns$Trial;" ∈ wsL_law := wc_2 _ (List.mem_of_getElem? (i := 1) rfl)
theorem wq_2_2 : Cond.classLink RX6 34 RX3 ∈ wsL_law := wc_2 _ (List.mem_of_getElem? (i := 2) rfl)
theorem wq_2_3 : Cond.instantiable RX3 5 ∈ wsL_law := wc_2 _ (List.mem_of_getElem? (i := 3) rfl)
theorem wq_2_4 : Cond.initialized RX3 ∈ wsL_law := wc_2 _ (List.mem_of_getElem? (i := 4) rfl)
theorem wq_2_5 : Cond.fieldLink RX6 37 "GaugeColumns" "pad" "LGaugeColumns$Pad;" ∈ wsL_law := wc_2 _ (List.mem_of_getElem? (i := 5) rfl)
theorem wq_2_6 : Cond.methodLink RX6 9 yX4_init ∈ wsL_law := wc_2 _ (List.mem_of_getElem? (i := 6) rfl)
theorem wq_2_7 : Cond.instanceMethod yX4_init ∈ wsL_law := wc_2 _ (List.mem_of_getElem? (i := 7) rfl)
theorem wq_2_8 : Cond.code yX4_init cX4_init 2 none ∈ wsL_law := wc_2 _ (List.mem_of_getElem? (i := 8) rfl)
theorem wq_2_9 : Cond.methodLink RX4 3 objectInit ∈ wsL_law := wc_2 _ (List.mem_of_getElem? (i := 9) rfl)
theorem wq_2_10 : Cond.methodLink RX4 13 ⟨"[I", "clone", "()Ljava/lang/Object;"⟩ ∈ wsL_law := wc_2 _ (List.mem_of_getElem? (i := 10) rfl)
theorem wq_2_11 : Cond.sameMethod "[I" "java/lang/Object" "clone" "()Ljava/lang/Object;" ∈ wsL_law := wc_2 _ (List.mem_of_getElem? (i := 11) rfl)
theorem wq_2_12 : Cond.native ⟨"java/lang/Object", "clone", "()Ljava/lang/Object;"⟩ ∈ wsL_law := wc_2 _ (List.mem_of_getElem? (i := 12) rfl)
theorem wq_2_13 : Cond.instanceMethod ⟨"java/lang/Object", "clone", "()Ljava/lang/Object;"⟩ ∈ wsL_law := wc_2 _ (List.mem_of_getElem? (i := 13) rfl)
theorem wq_2_14 : Cond.selects "[I" ⟨"[I", "clone", "()Ljava/lang/Object;"⟩ ⟨"java/lang/Object", "clone", "()Ljava/lang/Object;"⟩ ∈ wsL_law := wc_2 _ (List.mem_of_getElem? (i := 14) rfl)
theorem wq_2_15 : Cond.classLink RX4 14 "[I" ∈ wsL_law := wc_2 _ (List.mem_of_getElem? (i := 15) rfl)
theorem wq_2_16 : Cond.fieldLink RX4 18 "GaugeColumns$Tester" "settings" "[I" ∈ wsL_law := wc_2 _ (List.mem_of_getElem? (i := 16) rfl)
theorem wq_2_17 : Cond.arrayClass .int ∈ wsL_law := wc_2 _ (List.mem_of_getElem? (i := 17) rfl)
theorem wq_2_18 : Cond.fieldLink RX4 23 "GaugeColumns$Tester" "grams" "[I" ∈ wsL_law := wc_2 _ (List.mem_of_getElem? (i := 18) rfl)
theorem wq_2_19 : Cond.classLink RX4 26 RX1 ∈ wsL_law := wc_2 _ (List.mem_of_getElem? (i := 19) rfl)
theorem wq_2_20 : Cond.fieldLink RX4 28 "GaugeColumns$Tester" "gauges" "[LGaugeColumns$Gauge;" ∈ wsL_law := wc_2 _ (List.mem_of_getElem? (i := 20) rfl)
theorem wq_2_21 : Cond.instantiable RX1 5 ∈ wsL_law := wc_2 _ (List.mem_of_getElem? (i := 21) rfl)
theorem wq_2_22 : Cond.initialized RX1 ∈ wsL_law := wc_2 _ (List.mem_of_getElem? (i := 22) rfl)
theorem wq_2_23 : Cond.instanceMethod yX1_init ∈ wsL_law := wc_2 _ (List.mem_of_getElem? (i := 23) rfl)
theorem wq_3_0 : Cond.code yX1_init cX1_init 1 none ∈ wsL_law := wc_3 _ (List.mem_of_getElem? (i := 0) rfl)
theorem wq_3_1 : Cond.methodLink RX1 3 objectInit ∈ wsL_law := wc_3 _ (List.mem_of_getElem? (i := 1) rfl)
theorem wq_3_2 : Cond.methodLink RX6 18 yX2_init ∈ wsL_law := wc_3 _ (List.mem_of_getElem? (i := 2) rfl)
theorem wq_3_3 : Cond.instanceMethod yX2_init ∈ wsL_law := wc_3 _ (List.mem_of_getElem? (i := 3) rfl)
theorem wq_3_4 : Cond.code yX2_init cX2_init 2 none ∈ wsL_law := wc_3 _ (List.mem_of_getElem? (i := 4) rfl)
theorem wq_3_5 : Cond.methodLink RX2 3 objectInit ∈ wsL_law := wc_3 _ (List.mem_of_getElem? (i := 5) rfl)
theorem wq_3_6 : Cond.classLink RX2 9 RX4 ∈ wsL_law := wc_3 _ (List.mem_of_getElem? (i := 6) rfl)
theorem wq_3_7 : Cond.fieldLink RX2 11 "GaugeColumns$History" "states" "[LGaugeColumns$Tester;" ∈ wsL_law := wc_3 _ (List.mem_of_getElem? (i := 7) rfl)
theorem wq_3_8 : Cond.methodLink RX2 17 yX4_init ∈ wsL_law := wc_3 _ (List.mem_of_getElem? (i := 8) rfl)
theorem wq_3_9 : Cond.instanceMethod yX5_init ∈ wsL_law := wc_3 _ (List.mem_of_getElem? (i := 9) rfl)
theorem wq_3_10 : Cond.code yX5_init cX5_init 1 none ∈ wsL_law := wc_3 _ (List.mem_of_getElem? (i := 10) rfl)
theorem wq_3_11 : Cond.methodLink RX5 3 objectInit ∈ wsL_law := wc_3 _ (List.mem_of_getElem? (i := 11) rfl)
theorem wq_3_12 : Cond.fieldLink RX5 9 "GaugeColumns$Trial" "readings" "[I" ∈ wsL_law := wc_3 _ (List.mem_of_getElem? (i := 12) rfl)
theorem wq_3_13 : Cond.classLink RX5 15 RX1 ∈ wsL_law := wc_3 _ (List.mem_of_getElem? (i := 13) rfl)
theorem wq_3_14 : Cond.fieldLink RX5 18 "GaugeColumns$Trial" "gauge" "LGaugeColumns$Gauge;" ∈ wsL_law := wc_3 _ (List.mem_of_getElem? (i := 14) rfl)
theorem wq_3_15 : Cond.fieldLink RX5 22 "GaugeColumns$Trial" "sorted" "[I" ∈ wsL_law := wc_3 _ (List.mem_of_getElem? (i := 15) rfl)
theorem wq_3_16 : Cond.fieldLink RX5 25 "GaugeColumns$Trial" "pressures" "[I" ∈ wsL_law := wc_3 _ (List.mem_of_getElem? (i := 16) rfl)
theorem wq_3_17 : Cond.instanceMethod yX3_init ∈ wsL_law := wc_3 _ (List.mem_of_getElem? (i := 17) rfl)
theorem wq_3_18 : Cond.code yX3_init cX3_init 1 none ∈ wsL_law := wc_3 _ (List.mem_of_getElem? (i := 18) rfl)
theorem wq_3_19 : Cond.methodLink RX3 3 objectInit ∈ wsL_law := wc_3 _ (List.mem_of_getElem? (i := 19) rfl)
theorem wq_3_20 : Cond.fieldLink RX3 9 "GaugeColumns$Pad" "numbers" "[I" ∈ wsL_law := wc_3 _ (List.mem_of_getElem? (i := 20) rfl)
theorem wq_3_21 : Cond.arrayClass .char ∈ wsL_law := wc_3 _ (List.mem_of_getElem? (i := 21) rfl)
theorem wq_3_22 : Cond.fieldLink RX3 15 "GaugeColumns$Pad" "signs" "[C" ∈ wsL_law := wc_3 _ (List.mem_of_getElem? (i := 22) rfl)
theorem wq_3_23 : Cond.methodLink RL 12 yX7_init ∈ wsL_law := wc_3 _ (List.mem_of_getElem? (i := 23) rfl)
theorem wq_4_0 : Cond.instanceMethod yX7_init ∈ wsL_law := wc_4 _ (List.mem_of_getElem? (i := 0) rfl)
theorem wq_4_1 : Cond.code yX7_init cX7_init 1 none ∈ wsL_law := wc_4 _ (List.mem_of_getElem? (i := 1) rfl)
theorem wq_4_2 : Cond.methodLink RX7 1 objectInit ∈ wsL_law := wc_4 _ (List.mem_of_getElem? (i := 2) rfl)
theorem wq_4_3 : Cond.fieldLink RX7 7 "GaugeColumnsModel" "state" "[I" ∈ wsL_law := wc_4 _ (List.mem_of_getElem? (i := 3) rfl)
theorem wq_4_4 : Cond.fieldLink RX7 13 "GaugeColumnsModel" "history" "[I" ∈ wsL_law := wc_4 _ (List.mem_of_getElem? (i := 4) rfl)
theorem wq_4_5 : Cond.fieldLink RX7 16 "GaugeColumnsModel" "slots" "[I" ∈ wsL_law := wc_4 _ (List.mem_of_getElem? (i := 5) rfl)
theorem wq_4_6 : Cond.fieldLink RX7 19 "GaugeColumnsModel" "isSaved" "[I" ∈ wsL_law := wc_4 _ (List.mem_of_getElem? (i := 6) rfl)
theorem wq_4_7 : Cond.fieldLink RX7 22 "GaugeColumnsModel" "pad" "[I" ∈ wsL_law := wc_4 _ (List.mem_of_getElem? (i := 7) rfl)
theorem wq_4_8 : Cond.fieldLink RX7 25 "GaugeColumnsModel" "order" "[I" ∈ wsL_law := wc_4 _ (List.mem_of_getElem? (i := 8) rfl)
theorem wq_4_9 : Cond.fieldLink RX7 28 "GaugeColumnsModel" "readings" "[I" ∈ wsL_law := wc_4 _ (List.mem_of_getElem? (i := 9) rfl)
theorem wq_4_10 : Cond.methodLink RL 13 yX6_set ∈ wsL_law := wc_4 _ (List.mem_of_getElem? (i := 10) rfl)
theorem wq_4_11 : Cond.instanceMethod yX6_set ∈ wsL_law := wc_4 _ (List.mem_of_getElem? (i := 11) rfl)
theorem wq_4_12 : Cond.selects RX6 yX6_set yX6_set ∈ wsL_law := wc_4 _ (List.mem_of_getElem? (i := 12) rfl)
theorem wq_4_13 : Cond.code yX6_set cX6_set 3 (some .int) ∈ wsL_law := wc_4 _ (List.mem_of_getElem? (i := 13) rfl)
theorem wq_4_14 : Cond.methodLink RX6 41 yX2_remember ∈ wsL_law := wc_4 _ (List.mem_of_getElem? (i := 14) rfl)
theorem wq_4_15 : Cond.instanceMethod yX2_remember ∈ wsL_law := wc_4 _ (List.mem_of_getElem? (i := 15) rfl)
theorem wq_4_16 : Cond.selects RX2 yX2_remember yX2_remember ∈ wsL_law := wc_4 _ (List.mem_of_getElem? (i := 16) rfl)
theorem wq_4_17 : Cond.code yX2_remember cX2_remember 2 none ∈ wsL_law := wc_4 _ (List.mem_of_getElem? (i := 17) rfl)
theorem wq_4_18 : Cond.fieldLink RX2 18 "GaugeColumns$History" "next" "I" ∈ wsL_law := wc_4 _ (List.mem_of_getElem? (i := 18) rfl)
theorem wq_4_19 : Cond.methodLink RX2 22 yX4_copyFrom ∈ wsL_law := wc_4 _ (List.mem_of_getElem? (i := 19) rfl)
theorem wq_4_20 : Cond.instanceMethod yX4_copyFrom ∈ wsL_law := wc_4 _ (List.mem_of_getElem? (i := 20) rfl)
theorem wq_4_21 : Cond.selects RX4 yX4_copyFrom yX4_copyFrom ∈ wsL_law := wc_4 _ (List.mem_of_getElem? (i := 21) rfl)
theorem wq_4_22 : Cond.code yX4_copyFrom cX4_copyFrom 3 none ∈ wsL_law := wc_4 _ (List.mem_of_getElem? (i := 22) rfl)
theorem wq_4_23 : Cond.methodLink RX4 33 arraycopyName ∈ wsL_law := wc_4 _ (List.mem_of_getElem? (i := 23) rfl)
theorem wq_5_0 : Cond.native arraycopyName ∈ wsL_law := wc_5 _ (List.mem_of_getElem? (i := 0) rfl)
theorem wq_5_1 : Cond.static arraycopyName ∈ wsL_law := wc_5 _ (List.mem_of_getElem? (i := 1) rfl)
theorem wq_5_2 : Cond.initialized "java/lang/System" ∈ wsL_law := wc_5 _ (List.mem_of_getElem? (i := 2) rfl)
theorem wq_5_3 : Cond.fieldLink RX4 43 "GaugeColumns$Tester" "ringCount" "I" ∈ wsL_law := wc_5 _ (List.mem_of_getElem? (i := 3) rfl)
theorem wq_5_4 : Cond.fieldLink RX4 47 "GaugeColumns$Tester" "column" "I" ∈ wsL_law := wc_5 _ (List.mem_of_getElem? (i := 4) rfl)
theorem wq_5_5 : Cond.fieldLink RX4 50 "GaugeColumns$Tester" "gaugeCount" "I" ∈ wsL_law := wc_5 _ (List.mem_of_getElem? (i := 5) rfl)
theorem wq_5_6 : Cond.methodLink RX4 39 yX1_copyFrom ∈ wsL_law := wc_5 _ (List.mem_of_getElem? (i := 6) rfl)
theorem wq_5_7 : Cond.instanceMethod yX1_copyFrom ∈ wsL_law := wc_5 _ (List.mem_of_getElem? (i := 7) rfl)
theorem wq_5_8 : Cond.selects RX1 yX1_copyFrom yX1_copyFrom ∈ wsL_law := wc_5 _ (List.mem_of_getElem? (i := 8) rfl)
theorem wq_5_9 : Cond.code yX1_copyFrom cX1_copyFrom 2 none ∈ wsL_law := wc_5 _ (List.mem_of_getElem? (i := 9) rfl)
theorem wq_5_10 : Cond.fieldLink RX1 9 "GaugeColumns$Gauge" "error" "I" ∈ wsL_law := wc_5 _ (List.mem_of_getElem? (i := 10) rfl)
theorem wq_5_11 : Cond.fieldLink RX1 15 "GaugeColumns$Gauge" "play" "I" ∈ wsL_law := wc_5 _ (List.mem_of_getElem? (i := 11) rfl)
theorem wq_5_12 : Cond.fieldLink RX1 18 "GaugeColumns$Gauge" "step" "I" ∈ wsL_law := wc_5 _ (List.mem_of_getElem? (i := 12) rfl)
theorem wq_5_13 : Cond.fieldLink RX1 21 "GaugeColumns$Gauge" "hand" "I" ∈ wsL_law := wc_5 _ (List.mem_of_getElem? (i := 13) rfl)
theorem wq_5_14 : Cond.fieldLink RX1 24 "GaugeColumns$Gauge" "certificate" "LGaugeColumns$Certificate;" ∈ wsL_law := wc_5 _ (List.mem_of_getElem? (i := 14) rfl)
theorem wq_5_15 : Cond.methodLink RX6 45 yX4_change ∈ wsL_law := wc_5 _ (List.mem_of_getElem? (i := 15) rfl)
theorem wq_5_16 : Cond.instanceMethod yX4_change ∈ wsL_law := wc_5 _ (List.mem_of_getElem? (i := 16) rfl)
theorem wq_5_17 : Cond.selects RX4 yX4_change yX4_change ∈ wsL_law := wc_5 _ (List.mem_of_getElem? (i := 17) rfl)
theorem wq_5_18 : Cond.code yX4_change cX4_change 4 (some .int) ∈ wsL_law := wc_5 _ (List.mem_of_getElem? (i := 18) rfl)
theorem wq_5_19 : Cond.methodLink RX4 59 yX4_voidCertificates ∈ wsL_law := wc_5 _ (List.mem_of_getElem? (i := 19) rfl)
theorem wq_5_20 : Cond.instanceMethod yX4_voidCertificates ∈ wsL_law := wc_5 _ (List.mem_of_getElem? (i := 20) rfl)
theorem wq_5_21 : Cond.selects RX4 yX4_voidCertificates yX4_voidCertificates ∈ wsL_law := wc_5 _ (List.mem_of_getElem? (i := 21) rfl)
theorem wq_5_22 : Cond.code yX4_voidCertificates cX4_voidCertificates 2 none ∈ wsL_law := wc_5 _ (List.mem_of_getElem? (i := 22) rfl)
theorem wq_5_23 : Cond.fieldLink RX4 91 "GaugeColumns$Gauge" "certificate" "LGaugeColumns$Certificate;" ∈ wsL_law := wc_5 _ (List.mem_of_getElem? (i := 23) rfl)
theorem wq_6_0 : Cond.methodLink RX4 62 yX4_moveHands ∈ wsL_law := wc_6 _ (List.mem_of_getElem? (i := 0) rfl)
theorem wq_6_1 : Cond.instanceMethod yX4_moveHands ∈ wsL_law := wc_6 _ (List.mem_of_getElem? (i := 1) rfl)
theorem wq_6_2 : Cond.selects RX4 yX4_moveHands yX4_moveHands ∈ wsL_law := wc_6 _ (List.mem_of_getElem? (i := 2) rfl)
theorem wq_6_3 : Cond.code yX4_moveHands cX4_moveHands 3 (some .int) ∈ wsL_law := wc_6 _ (List.mem_of_getElem? (i := 3) rfl)
theorem wq_6_4 : Cond.methodLink RX4 77 yX4_columnPressure ∈ wsL_law := wc_6 _ (List.mem_of_getElem? (i := 4) rfl)
theorem wq_6_5 : Cond.instanceMethod yX4_columnPressure ∈ wsL_law := wc_6 _ (List.mem_of_getElem? (i := 5) rfl)
theorem wq_6_6 : Cond.selects RX4 yX4_columnPressure yX4_columnPressure ∈ wsL_law := wc_6 _ (List.mem_of_getElem? (i := 6) rfl)
theorem wq_6_7 : Cond.code yX4_columnPressure cX4_columnPressure 1 (some .int) ∈ wsL_law := wc_6 _ (List.mem_of_getElem? (i := 7) rfl)
theorem wq_6_8 : Cond.methodLink RX4 120 yX4_massOf ∈ wsL_law := wc_6 _ (List.mem_of_getElem? (i := 8) rfl)
theorem wq_6_9 : Cond.instanceMethod yX4_massOf ∈ wsL_law := wc_6 _ (List.mem_of_getElem? (i := 9) rfl)
theorem wq_6_10 : Cond.selects RX4 yX4_massOf yX4_massOf ∈ wsL_law := wc_6 _ (List.mem_of_getElem? (i := 10) rfl)
theorem wq_6_11 : Cond.code yX4_massOf cX4_massOf 4 (some .int) ∈ wsL_law := wc_6 _ (List.mem_of_getElem? (i := 11) rfl)
theorem wq_6_12 : Cond.methodLink RX4 124 yX4_pressureOf ∈ wsL_law := wc_6 _ (List.mem_of_getElem? (i := 12) rfl)
theorem wq_6_13 : Cond.instanceMethod yX4_pressureOf ∈ wsL_law := wc_6 _ (List.mem_of_getElem? (i := 13) rfl)
theorem wq_6_14 : Cond.selects RX4 yX4_pressureOf yX4_pressureOf ∈ wsL_law := wc_6 _ (List.mem_of_getElem? (i := 14) rfl)
theorem wq_6_15 : Cond.code yX4_pressureOf cX4_pressureOf 3 (some .int) ∈ wsL_law := wc_6 _ (List.mem_of_getElem? (i := 15) rfl)
theorem wq_6_16 : Cond.static yX6_weightOf ∈ wsL_law := wc_6 _ (List.mem_of_getElem? (i := 16) rfl)
theorem wq_6_17 : Cond.code yX6_weightOf cX6_weightOf 2 (some .int) ∈ wsL_law := wc_6 _ (List.mem_of_getElem? (i := 17) rfl)
theorem wq_6_18 : Cond.constant RX6 203 (100000) ∈ wsL_law := wc_6 _ (List.mem_of_getElem? (i := 18) rfl)
theorem wq_6_19 : Cond.methodLink RX6 204 yX6_dividedRounded ∈ wsL_law := wc_6 _ (List.mem_of_getElem? (i := 19) rfl)
theorem wq_6_20 : Cond.static yX6_dividedRounded ∈ wsL_law := wc_6 _ (List.mem_of_getElem? (i := 20) rfl)
theorem wq_6_21 : Cond.code yX6_dividedRounded cX6_dividedRounded 2 (some .int) ∈ wsL_law := wc_6 _ (List.mem_of_getElem? (i := 21) rfl)
theorem wq_6_22 : Cond.static yX6_dividedDown ∈ wsL_law := wc_6 _ (List.mem_of_getElem? (i := 22) rfl)
theorem wq_6_23 : Cond.code yX6_dividedDown cX6_dividedDown 2 (some .int) ∈ wsL_law := wc_6 _ (List.mem_of_getElem? (i := 23) rfl)
theorem wq_7_0 : Cond.methodLink RX4 80 yX1_follow ∈ wsL_law := wc_7 _ (List.mem_of_getElem? (i := 0) rfl)
theorem wq_7_1 : Cond.instanceMethod yX1_follow ∈ wsL_law := wc_7 _ (List.mem_of_getElem? (i := 1) rfl)
theorem wq_7_2 : Cond.selects RX1 yX1_follow yX1_follow ∈ wsL_law := wc_7 _ (List.mem_of_getElem? (i := 2) rfl)
theorem wq_7_3 : Cond.code yX1_follow cX1_follow 4 none ∈ wsL_law := wc_7 _ (List.mem_of_getElem? (i := 3) rfl)
theorem wq_7_4 : Cond.methodLink RX1 28 Lib.Math.abs.name ∈ wsL_law := wc_7 _ (List.mem_of_getElem? (i := 4) rfl)
theorem wq_7_5 : Cond.static Lib.Math.abs.name ∈ wsL_law := wc_7 _ (List.mem_of_getElem? (i := 5) rfl)
theorem wq_7_6 : Cond.initialized "java/lang/Math" ∈ wsL_law := wc_7 _ (List.mem_of_getElem? (i := 6) rfl)
theorem wq_7_7 : Cond.code Lib.Math.abs.name Lib.Math.abs.code 1 (some .int) ∈ wsL_law := wc_7 _ (List.mem_of_getElem? (i := 7) rfl)
theorem wq_7_8 : Cond.methodLink RX6 49 yX2_settle ∈ wsL_law := wc_7 _ (List.mem_of_getElem? (i := 8) rfl)
theorem wq_7_9 : Cond.instanceMethod yX2_settle ∈ wsL_law := wc_7 _ (List.mem_of_getElem? (i := 9) rfl)
theorem wq_7_10 : Cond.selects RX2 yX2_settle yX2_settle ∈ wsL_law := wc_7 _ (List.mem_of_getElem? (i := 10) rfl)
theorem wq_7_11 : Cond.code yX2_settle cX2_settle 2 (some .int) ∈ wsL_law := wc_7 _ (List.mem_of_getElem? (i := 11) rfl)
theorem wq_7_12 : Cond.fieldLink RX2 26 "GaugeColumns$History" "kept" "I" ∈ wsL_law := wc_7 _ (List.mem_of_getElem? (i := 12) rfl)
theorem wq_7_13 : Cond.methodLink RX2 29 Lib.Math.min.name ∈ wsL_law := wc_7 _ (List.mem_of_getElem? (i := 13) rfl)
theorem wq_7_14 : Cond.static Lib.Math.min.name ∈ wsL_law := wc_7 _ (List.mem_of_getElem? (i := 14) rfl)
theorem wq_7_15 : Cond.code Lib.Math.min.name Lib.Math.min.code 2 (some .int) ∈ wsL_law := wc_7 _ (List.mem_of_getElem? (i := 15) rfl)
theorem wq_7_16 : Cond.methodLink RL 17 yX7_set ∈ wsL_law := wc_7 _ (List.mem_of_getElem? (i := 16) rfl)
theorem wq_7_17 : Cond.instanceMethod yX7_set ∈ wsL_law := wc_7 _ (List.mem_of_getElem? (i := 17) rfl)
theorem wq_7_18 : Cond.selects RX7 yX7_set yX7_set ∈ wsL_law := wc_7 _ (List.mem_of_getElem? (i := 18) rfl)
theorem wq_7_19 : Cond.code yX7_set cX7_set 3 (some .int) ∈ wsL_law := wc_7 _ (List.mem_of_getElem? (i := 19) rfl)
theorem wq_7_20 : Cond.methodLink RX7 103 yX7_isValue ∈ wsL_law := wc_7 _ (List.mem_of_getElem? (i := 20) rfl)
theorem wq_7_21 : Cond.static yX7_isValue ∈ wsL_law := wc_7 _ (List.mem_of_getElem? (i := 21) rfl)
theorem wq_7_22 : Cond.code yX7_isValue cX7_isValue 2 (some .boolean) ∈ wsL_law := wc_7 _ (List.mem_of_getElem? (i := 22) rfl)
theorem wq_7_23 : Cond.methodLink RX7 39 yX7_within ∈ wsL_law := wc_7 _ (List.mem_of_getElem? (i := 23) rfl)
theorem wq_8_0 : Cond.static yX7_within ∈ wsL_law := wc_8 _ (List.mem_of_getElem? (i := 0) rfl)
theorem wq_8_1 : Cond.code yX7_within cX7_within 3 (some .boolean) ∈ wsL_law := wc_8 _ (List.mem_of_getElem? (i := 1) rfl)
theorem wq_8_2 : Cond.methodLink RX7 107 yX7_record ∈ wsL_law := wc_8 _ (List.mem_of_getElem? (i := 2) rfl)
theorem wq_8_3 : Cond.instanceMethod yX7_record ∈ wsL_law := wc_8 _ (List.mem_of_getElem? (i := 3) rfl)
theorem wq_8_4 : Cond.selects RX7 yX7_record yX7_record ∈ wsL_law := wc_8 _ (List.mem_of_getElem? (i := 4) rfl)
theorem wq_8_5 : Cond.code yX7_record cX7_record 2 none ∈ wsL_law := wc_8 _ (List.mem_of_getElem? (i := 5) rfl)
theorem wq_8_6 : Cond.fieldLink RX7 31 "GaugeColumnsModel" "recorded" "I" ∈ wsL_law := wc_8 _ (List.mem_of_getElem? (i := 6) rfl)
theorem wq_8_7 : Cond.methodLink RX7 35 yX7_moves ∈ wsL_law := wc_8 _ (List.mem_of_getElem? (i := 7) rfl)
theorem wq_8_8 : Cond.static yX7_moves ∈ wsL_law := wc_8 _ (List.mem_of_getElem? (i := 8) rfl)
theorem wq_8_9 : Cond.code yX7_moves cX7_moves 5 none ∈ wsL_law := wc_8 _ (List.mem_of_getElem? (i := 9) rfl)
theorem wq_8_10 : Cond.methodLink RX7 110 yX7_sets ∈ wsL_law := wc_8 _ (List.mem_of_getElem? (i := 10) rfl)
theorem wq_8_11 : Cond.instanceMethod yX7_sets ∈ wsL_law := wc_8 _ (List.mem_of_getElem? (i := 11) rfl)
theorem wq_8_12 : Cond.selects RX7 yX7_sets yX7_sets ∈ wsL_law := wc_8 _ (List.mem_of_getElem? (i := 12) rfl)
theorem wq_8_13 : Cond.code yX7_sets cX7_sets 4 (some .int) ∈ wsL_law := wc_8 _ (List.mem_of_getElem? (i := 13) rfl)
theorem wq_8_14 : Cond.methodLink RX7 97 yX7_voidsAll ∈ wsL_law := wc_8 _ (List.mem_of_getElem? (i := 14) rfl)
theorem wq_8_15 : Cond.instanceMethod yX7_voidsAll ∈ wsL_law := wc_8 _ (List.mem_of_getElem? (i := 15) rfl)
theorem wq_8_16 : Cond.selects RX7 yX7_voidsAll yX7_voidsAll ∈ wsL_law := wc_8 _ (List.mem_of_getElem? (i := 16) rfl)
theorem wq_8_17 : Cond.code yX7_voidsAll cX7_voidsAll 2 none ∈ wsL_law := wc_8 _ (List.mem_of_getElem? (i := 17) rfl)
theorem wq_8_18 : Cond.methodLink RX7 82 yX7_voids ∈ wsL_law := wc_8 _ (List.mem_of_getElem? (i := 18) rfl)
theorem wq_8_19 : Cond.instanceMethod yX7_voids ∈ wsL_law := wc_8 _ (List.mem_of_getElem? (i := 19) rfl)
theorem wq_8_20 : Cond.selects RX7 yX7_voids yX7_voids ∈ wsL_law := wc_8 _ (List.mem_of_getElem? (i := 20) rfl)
theorem wq_8_21 : Cond.code yX7_voids cX7_voids 3 none ∈ wsL_law := wc_8 _ (List.mem_of_getElem? (i := 21) rfl)
theorem wq_8_22 : Cond.methodLink RX7 74 yX7_setPart ∈ wsL_law := wc_8 _ (List.mem_of_getElem? (i := 22) rfl)
theorem wq_8_23 : Cond.instanceMethod yX7_setPart ∈ wsL_law := wc_8 _ (List.mem_of_getElem? (i := 23) rfl)
theorem wq_9_0 : Cond.selects RX7 yX7_setPart yX7_setPart ∈ wsL_law := wc_9 _ (List.mem_of_getElem? (i := 0) rfl)
theorem wq_9_1 : Cond.code yX7_setPart cX7_setPart 4 none ∈ wsL_law := wc_9 _ (List.mem_of_getElem? (i := 1) rfl)
theorem wq_9_2 : Cond.methodLink RX7 100 yX7_handsGo ∈ wsL_law := wc_9 _ (List.mem_of_getElem? (i := 2) rfl)
theorem wq_9_3 : Cond.instanceMethod yX7_handsGo ∈ wsL_law := wc_9 _ (List.mem_of_getElem? (i := 3) rfl)
theorem wq_9_4 : Cond.selects RX7 yX7_handsGo yX7_handsGo ∈ wsL_law := wc_9 _ (List.mem_of_getElem? (i := 4) rfl)
theorem wq_9_5 : Cond.code yX7_handsGo cX7_handsGo 2 none ∈ wsL_law := wc_9 _ (List.mem_of_getElem? (i := 5) rfl)
theorem wq_9_6 : Cond.methodLink RX7 78 yX7_handGoes ∈ wsL_law := wc_9 _ (List.mem_of_getElem? (i := 6) rfl)
theorem wq_9_7 : Cond.instanceMethod yX7_handGoes ∈ wsL_law := wc_9 _ (List.mem_of_getElem? (i := 7) rfl)
theorem wq_9_8 : Cond.selects RX7 yX7_handGoes yX7_handGoes ∈ wsL_law := wc_9 _ (List.mem_of_getElem? (i := 8) rfl)
theorem wq_9_9 : Cond.code yX7_handGoes cX7_handGoes 2 none ∈ wsL_law := wc_9 _ (List.mem_of_getElem? (i := 9) rfl)
theorem wq_9_10 : Cond.methodLink RX7 64 yX7_part ∈ wsL_law := wc_9 _ (List.mem_of_getElem? (i := 10) rfl)
theorem wq_9_11 : Cond.instanceMethod yX7_part ∈ wsL_law := wc_9 _ (List.mem_of_getElem? (i := 11) rfl)
theorem wq_9_12 : Cond.selects RX7 yX7_part yX7_part ∈ wsL_law := wc_9 _ (List.mem_of_getElem? (i := 12) rfl)
theorem wq_9_13 : Cond.code yX7_part cX7_part 3 (some .int) ∈ wsL_law := wc_9 _ (List.mem_of_getElem? (i := 13) rfl)
theorem wq_9_14 : Cond.methodLink RX7 67 yX7_pressureOf ∈ wsL_law := wc_9 _ (List.mem_of_getElem? (i := 14) rfl)
theorem wq_9_15 : Cond.instanceMethod yX7_pressureOf ∈ wsL_law := wc_9 _ (List.mem_of_getElem? (i := 15) rfl)
theorem wq_9_16 : Cond.selects RX7 yX7_pressureOf yX7_pressureOf ∈ wsL_law := wc_9 _ (List.mem_of_getElem? (i := 16) rfl)
theorem wq_9_17 : Cond.code yX7_pressureOf cX7_pressureOf 2 (some .int) ∈ wsL_law := wc_9 _ (List.mem_of_getElem? (i := 17) rfl)
theorem wq_9_18 : Cond.methodLink RX7 51 yX7_massOf ∈ wsL_law := wc_9 _ (List.mem_of_getElem? (i := 18) rfl)
theorem wq_9_19 : Cond.instanceMethod yX7_massOf ∈ wsL_law := wc_9 _ (List.mem_of_getElem? (i := 19) rfl)
theorem wq_9_20 : Cond.selects RX7 yX7_massOf yX7_massOf ∈ wsL_law := wc_9 _ (List.mem_of_getElem? (i := 20) rfl)
theorem wq_9_21 : Cond.code yX7_massOf cX7_massOf 4 (some .int) ∈ wsL_law := wc_9 _ (List.mem_of_getElem? (i := 21) rfl)
theorem wq_9_22 : Cond.methodLink RX7 55 yX7_pressureBy ∈ wsL_law := wc_9 _ (List.mem_of_getElem? (i := 22) rfl)
theorem wq_9_23 : Cond.instanceMethod yX7_pressureBy ∈ wsL_law := wc_9 _ (List.mem_of_getElem? (i := 23) rfl)
theorem wq_10_0 : Cond.selects RX7 yX7_pressureBy yX7_pressureBy ∈ wsL_law := wc_10 _ (List.mem_of_getElem? (i := 0) rfl)
theorem wq_10_1 : Cond.code yX7_pressureBy cX7_pressureBy 3 (some .int) ∈ wsL_law := wc_10 _ (List.mem_of_getElem? (i := 1) rfl)
theorem wq_10_2 : Cond.methodLink RX7 48 yX7_weightOf ∈ wsL_law := wc_10 _ (List.mem_of_getElem? (i := 2) rfl)
theorem wq_10_3 : Cond.instanceMethod yX7_weightOf ∈ wsL_law := wc_10 _ (List.mem_of_getElem? (i := 3) rfl)
theorem wq_10_4 : Cond.selects RX7 yX7_weightOf yX7_weightOf ∈ wsL_law := wc_10 _ (List.mem_of_getElem? (i := 4) rfl)
theorem wq_10_5 : Cond.code yX7_weightOf cX7_weightOf 3 (some .int) ∈ wsL_law := wc_10 _ (List.mem_of_getElem? (i := 5) rfl)
theorem wq_10_6 : Cond.constant RX7 43 (100000) ∈ wsL_law := wc_10 _ (List.mem_of_getElem? (i := 6) rfl)
theorem wq_10_7 : Cond.methodLink RX7 44 yX7_rounded ∈ wsL_law := wc_10 _ (List.mem_of_getElem? (i := 7) rfl)
theorem wq_10_8 : Cond.static yX7_rounded ∈ wsL_law := wc_10 _ (List.mem_of_getElem? (i := 8) rfl)
theorem wq_10_9 : Cond.code yX7_rounded cX7_rounded 2 (some .int) ∈ wsL_law := wc_10 _ (List.mem_of_getElem? (i := 9) rfl)
theorem wq_10_10 : Cond.methodLink RX7 70 yX7_goesTo ∈ wsL_law := wc_10 _ (List.mem_of_getElem? (i := 10) rfl)
theorem wq_10_11 : Cond.static yX7_goesTo ∈ wsL_law := wc_10 _ (List.mem_of_getElem? (i := 11) rfl)
theorem wq_10_12 : Cond.code yX7_goesTo cX7_goesTo 5 (some .int) ∈ wsL_law := wc_10 _ (List.mem_of_getElem? (i := 12) rfl)
theorem wq_10_13 : Cond.methodLink RX7 61 yX7_truth ∈ wsL_law := wc_10 _ (List.mem_of_getElem? (i := 13) rfl)
theorem wq_10_14 : Cond.static yX7_truth ∈ wsL_law := wc_10 _ (List.mem_of_getElem? (i := 14) rfl)
theorem wq_10_15 : Cond.code yX7_truth cX7_truth 3 (some .int) ∈ wsL_law := wc_10 _ (List.mem_of_getElem? (i := 15) rfl)
theorem wq_10_16 : Cond.methodLink RX7 58 yX7_size ∈ wsL_law := wc_10 _ (List.mem_of_getElem? (i := 16) rfl)
theorem wq_10_17 : Cond.static yX7_size ∈ wsL_law := wc_10 _ (List.mem_of_getElem? (i := 17) rfl)
theorem wq_10_18 : Cond.code yX7_size cX7_size 1 (some .int) ∈ wsL_law := wc_10 _ (List.mem_of_getElem? (i := 18) rfl)
theorem wq_10_19 : Cond.methodLink RL 18 yX6_ring ∈ wsL_law := wc_10 _ (List.mem_of_getElem? (i := 19) rfl)
theorem wq_10_20 : Cond.instanceMethod yX6_ring ∈ wsL_law := wc_10 _ (List.mem_of_getElem? (i := 20) rfl)
theorem wq_10_21 : Cond.selects RX6 yX6_ring yX6_ring ∈ wsL_law := wc_10 _ (List.mem_of_getElem? (i := 21) rfl)
theorem wq_10_22 : Cond.code yX6_ring cX6_ring 2 (some .int) ∈ wsL_law := wc_10 _ (List.mem_of_getElem? (i := 22) rfl)
theorem wq_10_23 : Cond.methodLink RX6 53 yX4_addRing ∈ wsL_law := wc_10 _ (List.mem_of_getElem? (i := 23) rfl)
theorem wq_11_0 : Cond.instanceMethod yX4_addRing ∈ wsL_law := wc_11 _ (List.mem_of_getElem? (i := 0) rfl)
theorem wq_11_1 : Cond.selects RX4 yX4_addRing yX4_addRing ∈ wsL_law := wc_11 _ (List.mem_of_getElem? (i := 1) rfl)
theorem wq_11_2 : Cond.code yX4_addRing cX4_addRing 2 (some .int) ∈ wsL_law := wc_11 _ (List.mem_of_getElem? (i := 2) rfl)
theorem wq_11_3 : Cond.methodLink RL 22 yX7_ring ∈ wsL_law := wc_11 _ (List.mem_of_getElem? (i := 3) rfl)
theorem wq_11_4 : Cond.instanceMethod yX7_ring ∈ wsL_law := wc_11 _ (List.mem_of_getElem? (i := 4) rfl)
theorem wq_11_5 : Cond.selects RX7 yX7_ring yX7_ring ∈ wsL_law := wc_11 _ (List.mem_of_getElem? (i := 5) rfl)
theorem wq_11_6 : Cond.code yX7_ring cX7_ring 3 (some .int) ∈ wsL_law := wc_11 _ (List.mem_of_getElem? (i := 6) rfl)
theorem wq_11_7 : Cond.methodLink RX7 113 yX7_whyNoRing ∈ wsL_law := wc_11 _ (List.mem_of_getElem? (i := 7) rfl)
theorem wq_11_8 : Cond.instanceMethod yX7_whyNoRing ∈ wsL_law := wc_11 _ (List.mem_of_getElem? (i := 8) rfl)
theorem wq_11_9 : Cond.selects RX7 yX7_whyNoRing yX7_whyNoRing ∈ wsL_law := wc_11 _ (List.mem_of_getElem? (i := 9) rfl)
theorem wq_11_10 : Cond.code yX7_whyNoRing cX7_whyNoRing 2 (some .int) ∈ wsL_law := wc_11 _ (List.mem_of_getElem? (i := 10) rfl)
theorem wq_11_11 : Cond.methodLink RX7 116 yX7_comes ∈ wsL_law := wc_11 _ (List.mem_of_getElem? (i := 11) rfl)
theorem wq_11_12 : Cond.instanceMethod yX7_comes ∈ wsL_law := wc_11 _ (List.mem_of_getElem? (i := 12) rfl)
theorem wq_11_13 : Cond.selects RX7 yX7_comes yX7_comes ∈ wsL_law := wc_11 _ (List.mem_of_getElem? (i := 13) rfl)
theorem wq_11_14 : Cond.code yX7_comes cX7_comes 2 (some .int) ∈ wsL_law := wc_11 _ (List.mem_of_getElem? (i := 14) rfl)
theorem wq_11_15 : Cond.methodLink RL 23 yX6_lose ∈ wsL_law := wc_11 _ (List.mem_of_getElem? (i := 15) rfl)
theorem wq_11_16 : Cond.instanceMethod yX6_lose ∈ wsL_law := wc_11 _ (List.mem_of_getElem? (i := 16) rfl)
theorem wq_11_17 : Cond.selects RX6 yX6_lose yX6_lose ∈ wsL_law := wc_11 _ (List.mem_of_getElem? (i := 17) rfl)
theorem wq_11_18 : Cond.code yX6_lose cX6_lose 1 (some .int) ∈ wsL_law := wc_11 _ (List.mem_of_getElem? (i := 18) rfl)
theorem wq_11_19 : Cond.methodLink RX6 56 yX4_dropRing ∈ wsL_law := wc_11 _ (List.mem_of_getElem? (i := 19) rfl)
theorem wq_11_20 : Cond.instanceMethod yX4_dropRing ∈ wsL_law := wc_11 _ (List.mem_of_getElem? (i := 20) rfl)
theorem wq_11_21 : Cond.selects RX4 yX4_dropRing yX4_dropRing ∈ wsL_law := wc_11 _ (List.mem_of_getElem? (i := 21) rfl)
theorem wq_11_22 : Cond.code yX4_dropRing cX4_dropRing 1 (some .int) ∈ wsL_law := wc_11 _ (List.mem_of_getElem? (i := 22) rfl)
theorem wq_11_23 : Cond.methodLink RL 27 yX7_lose ∈ wsL_law := wc_11 _ (List.mem_of_getElem? (i := 23) rfl)
theorem wq_12_0 : Cond.instanceMethod yX7_lose ∈ wsL_law := wc_12 _ (List.mem_of_getElem? (i := 0) rfl)
theorem wq_12_1 : Cond.selects RX7 yX7_lose yX7_lose ∈ wsL_law := wc_12 _ (List.mem_of_getElem? (i := 1) rfl)
theorem wq_12_2 : Cond.code yX7_lose cX7_lose 3 (some .int) ∈ wsL_law := wc_12 _ (List.mem_of_getElem? (i := 2) rfl)
theorem wq_12_3 : Cond.methodLink RL 28 yX6_stack ∈ wsL_law := wc_12 _ (List.mem_of_getElem? (i := 3) rfl)
theorem wq_12_4 : Cond.instanceMethod yX6_stack ∈ wsL_law := wc_12 _ (List.mem_of_getElem? (i := 4) rfl)
theorem wq_12_5 : Cond.selects RX6 yX6_stack yX6_stack ∈ wsL_law := wc_12 _ (List.mem_of_getElem? (i := 5) rfl)
theorem wq_12_6 : Cond.code yX6_stack cX6_stack 2 (some .int) ∈ wsL_law := wc_12 _ (List.mem_of_getElem? (i := 6) rfl)
theorem wq_12_7 : Cond.methodLink RX6 60 yX4_putOn ∈ wsL_law := wc_12 _ (List.mem_of_getElem? (i := 7) rfl)
theorem wq_12_8 : Cond.instanceMethod yX4_putOn ∈ wsL_law := wc_12 _ (List.mem_of_getElem? (i := 8) rfl)
theorem wq_12_9 : Cond.selects RX4 yX4_putOn yX4_putOn ∈ wsL_law := wc_12 _ (List.mem_of_getElem? (i := 9) rfl)
theorem wq_12_10 : Cond.code yX4_putOn cX4_putOn 2 (some .int) ∈ wsL_law := wc_12 _ (List.mem_of_getElem? (i := 10) rfl)
theorem wq_12_11 : Cond.methodLink RX4 66 yX4_hasRing ∈ wsL_law := wc_12 _ (List.mem_of_getElem? (i := 11) rfl)
theorem wq_12_12 : Cond.instanceMethod yX4_hasRing ∈ wsL_law := wc_12 _ (List.mem_of_getElem? (i := 12) rfl)
theorem wq_12_13 : Cond.selects RX4 yX4_hasRing yX4_hasRing ∈ wsL_law := wc_12 _ (List.mem_of_getElem? (i := 13) rfl)
theorem wq_12_14 : Cond.code yX4_hasRing cX4_hasRing 2 (some .boolean) ∈ wsL_law := wc_12 _ (List.mem_of_getElem? (i := 14) rfl)
theorem wq_12_15 : Cond.methodLink RX4 70 yX4_isStacked ∈ wsL_law := wc_12 _ (List.mem_of_getElem? (i := 15) rfl)
theorem wq_12_16 : Cond.instanceMethod yX4_isStacked ∈ wsL_law := wc_12 _ (List.mem_of_getElem? (i := 16) rfl)
theorem wq_12_17 : Cond.selects RX4 yX4_isStacked yX4_isStacked ∈ wsL_law := wc_12 _ (List.mem_of_getElem? (i := 17) rfl)
theorem wq_12_18 : Cond.code yX4_isStacked cX4_isStacked 2 (some .boolean) ∈ wsL_law := wc_12 _ (List.mem_of_getElem? (i := 18) rfl)
theorem wq_12_19 : Cond.methodLink RL 31 yX7_stack ∈ wsL_law := wc_12 _ (List.mem_of_getElem? (i := 19) rfl)
theorem wq_12_20 : Cond.instanceMethod yX7_stack ∈ wsL_law := wc_12 _ (List.mem_of_getElem? (i := 20) rfl)
theorem wq_12_21 : Cond.selects RX7 yX7_stack yX7_stack ∈ wsL_law := wc_12 _ (List.mem_of_getElem? (i := 21) rfl)
theorem wq_12_22 : Cond.code yX7_stack cX7_stack 3 (some .int) ∈ wsL_law := wc_12 _ (List.mem_of_getElem? (i := 22) rfl)
theorem wq_12_23 : Cond.methodLink RX7 126 yX7_whyNotMoved ∈ wsL_law := wc_12 _ (List.mem_of_getElem? (i := 23) rfl)
theorem wq_13_0 : Cond.instanceMethod yX7_whyNotMoved ∈ wsL_law := wc_13 _ (List.mem_of_getElem? (i := 0) rfl)
theorem wq_13_1 : Cond.selects RX7 yX7_whyNotMoved yX7_whyNotMoved ∈ wsL_law := wc_13 _ (List.mem_of_getElem? (i := 1) rfl)
theorem wq_13_2 : Cond.code yX7_whyNotMoved cX7_whyNotMoved 3 (some .int) ∈ wsL_law := wc_13 _ (List.mem_of_getElem? (i := 2) rfl)
theorem wq_13_3 : Cond.methodLink RX7 119 yX7_isRing ∈ wsL_law := wc_13 _ (List.mem_of_getElem? (i := 3) rfl)
theorem wq_13_4 : Cond.instanceMethod yX7_isRing ∈ wsL_law := wc_13 _ (List.mem_of_getElem? (i := 4) rfl)
theorem wq_13_5 : Cond.selects RX7 yX7_isRing yX7_isRing ∈ wsL_law := wc_13 _ (List.mem_of_getElem? (i := 5) rfl)
theorem wq_13_6 : Cond.code yX7_isRing cX7_isRing 2 (some .boolean) ∈ wsL_law := wc_13 _ (List.mem_of_getElem? (i := 6) rfl)
theorem wq_13_7 : Cond.methodLink RX7 123 yX7_isStacked ∈ wsL_law := wc_13 _ (List.mem_of_getElem? (i := 7) rfl)
theorem wq_13_8 : Cond.instanceMethod yX7_isStacked ∈ wsL_law := wc_13 _ (List.mem_of_getElem? (i := 8) rfl)
theorem wq_13_9 : Cond.selects RX7 yX7_isStacked yX7_isStacked ∈ wsL_law := wc_13 _ (List.mem_of_getElem? (i := 9) rfl)
theorem wq_13_10 : Cond.code yX7_isStacked cX7_isStacked 2 (some .boolean) ∈ wsL_law := wc_13 _ (List.mem_of_getElem? (i := 10) rfl)
theorem wq_13_11 : Cond.methodLink RX7 130 yX7_isMoved ∈ wsL_law := wc_13 _ (List.mem_of_getElem? (i := 11) rfl)
theorem wq_13_12 : Cond.instanceMethod yX7_isMoved ∈ wsL_law := wc_13 _ (List.mem_of_getElem? (i := 12) rfl)
theorem wq_13_13 : Cond.selects RX7 yX7_isMoved yX7_isMoved ∈ wsL_law := wc_13 _ (List.mem_of_getElem? (i := 13) rfl)
theorem wq_13_14 : Cond.code yX7_isMoved cX7_isMoved 2 (some .int) ∈ wsL_law := wc_13 _ (List.mem_of_getElem? (i := 14) rfl)
theorem wq_13_15 : Cond.methodLink RL 32 yX6_take ∈ wsL_law := wc_13 _ (List.mem_of_getElem? (i := 15) rfl)
theorem wq_13_16 : Cond.instanceMethod yX6_take ∈ wsL_law := wc_13 _ (List.mem_of_getElem? (i := 16) rfl)
theorem wq_13_17 : Cond.selects RX6 yX6_take yX6_take ∈ wsL_law := wc_13 _ (List.mem_of_getElem? (i := 17) rfl)
theorem wq_13_18 : Cond.code yX6_take cX6_take 2 (some .int) ∈ wsL_law := wc_13 _ (List.mem_of_getElem? (i := 18) rfl)
theorem wq_13_19 : Cond.methodLink RX6 63 yX4_takeOff ∈ wsL_law := wc_13 _ (List.mem_of_getElem? (i := 19) rfl)
theorem wq_13_20 : Cond.instanceMethod yX4_takeOff ∈ wsL_law := wc_13 _ (List.mem_of_getElem? (i := 20) rfl)
theorem wq_13_21 : Cond.selects RX4 yX4_takeOff yX4_takeOff ∈ wsL_law := wc_13 _ (List.mem_of_getElem? (i := 21) rfl)
theorem wq_13_22 : Cond.code yX4_takeOff cX4_takeOff 2 (some .int) ∈ wsL_law := wc_13 _ (List.mem_of_getElem? (i := 22) rfl)
theorem wq_13_23 : Cond.methodLink RL 35 yX7_take ∈ wsL_law := wc_13 _ (List.mem_of_getElem? (i := 23) rfl)
theorem wq_14_0 : Cond.instanceMethod yX7_take ∈ wsL_law := wc_14 _ (List.mem_of_getElem? (i := 0) rfl)
theorem wq_14_1 : Cond.selects RX7 yX7_take yX7_take ∈ wsL_law := wc_14 _ (List.mem_of_getElem? (i := 1) rfl)
theorem wq_14_2 : Cond.code yX7_take cX7_take 3 (some .int) ∈ wsL_law := wc_14 _ (List.mem_of_getElem? (i := 2) rfl)
theorem wq_14_3 : Cond.methodLink RL 36 yX6_gauge ∈ wsL_law := wc_14 _ (List.mem_of_getElem? (i := 3) rfl)
theorem wq_14_4 : Cond.instanceMethod yX6_gauge ∈ wsL_law := wc_14 _ (List.mem_of_getElem? (i := 4) rfl)
theorem wq_14_5 : Cond.selects RX6 yX6_gauge yX6_gauge ∈ wsL_law := wc_14 _ (List.mem_of_getElem? (i := 5) rfl)
theorem wq_14_6 : Cond.code yX6_gauge cX6_gauge 4 (some .int) ∈ wsL_law := wc_14 _ (List.mem_of_getElem? (i := 6) rfl)
theorem wq_14_7 : Cond.methodLink RX6 66 yX4_addGauge ∈ wsL_law := wc_14 _ (List.mem_of_getElem? (i := 7) rfl)
theorem wq_14_8 : Cond.instanceMethod yX4_addGauge ∈ wsL_law := wc_14 _ (List.mem_of_getElem? (i := 8) rfl)
theorem wq_14_9 : Cond.selects RX4 yX4_addGauge yX4_addGauge ∈ wsL_law := wc_14 _ (List.mem_of_getElem? (i := 9) rfl)
theorem wq_14_10 : Cond.code yX4_addGauge cX4_addGauge 4 (some .int) ∈ wsL_law := wc_14 _ (List.mem_of_getElem? (i := 10) rfl)
theorem wq_14_11 : Cond.methodLink RX4 73 yX1_begin ∈ wsL_law := wc_14 _ (List.mem_of_getElem? (i := 11) rfl)
theorem wq_14_12 : Cond.instanceMethod yX1_begin ∈ wsL_law := wc_14 _ (List.mem_of_getElem? (i := 12) rfl)
theorem wq_14_13 : Cond.selects RX1 yX1_begin yX1_begin ∈ wsL_law := wc_14 _ (List.mem_of_getElem? (i := 13) rfl)
theorem wq_14_14 : Cond.code yX1_begin cX1_begin 4 none ∈ wsL_law := wc_14 _ (List.mem_of_getElem? (i := 14) rfl)
theorem wq_14_15 : Cond.methodLink RL 40 yX7_gauge ∈ wsL_law := wc_14 _ (List.mem_of_getElem? (i := 15) rfl)
theorem wq_14_16 : Cond.instanceMethod yX7_gauge ∈ wsL_law := wc_14 _ (List.mem_of_getElem? (i := 16) rfl)
theorem wq_14_17 : Cond.selects RX7 yX7_gauge yX7_gauge ∈ wsL_law := wc_14 _ (List.mem_of_getElem? (i := 17) rfl)
theorem wq_14_18 : Cond.code yX7_gauge cX7_gauge 5 (some .int) ∈ wsL_law := wc_14 _ (List.mem_of_getElem? (i := 18) rfl)
theorem wq_14_19 : Cond.methodLink RX7 136 yX7_whyNoGauge ∈ wsL_law := wc_14 _ (List.mem_of_getElem? (i := 19) rfl)
theorem wq_14_20 : Cond.instanceMethod yX7_whyNoGauge ∈ wsL_law := wc_14 _ (List.mem_of_getElem? (i := 20) rfl)
theorem wq_14_21 : Cond.selects RX7 yX7_whyNoGauge yX7_whyNoGauge ∈ wsL_law := wc_14 _ (List.mem_of_getElem? (i := 21) rfl)
theorem wq_14_22 : Cond.code yX7_whyNoGauge cX7_whyNoGauge 4 (some .int) ∈ wsL_law := wc_14 _ (List.mem_of_getElem? (i := 22) rfl)
theorem wq_14_23 : Cond.methodLink RX7 133 yX7_isError ∈ wsL_law := wc_14 _ (List.mem_of_getElem? (i := 23) rfl)
theorem wq_15_0 : Cond.static yX7_isError ∈ wsL_law := wc_15 _ (List.mem_of_getElem? (i := 0) rfl)
theorem wq_15_1 : Cond.code yX7_isError cX7_isError 1 (some .boolean) ∈ wsL_law := wc_15 _ (List.mem_of_getElem? (i := 1) rfl)
theorem wq_15_2 : Cond.methodLink RX7 140 yX7_comesGauge ∈ wsL_law := wc_15 _ (List.mem_of_getElem? (i := 2) rfl)
theorem wq_15_3 : Cond.instanceMethod yX7_comesGauge ∈ wsL_law := wc_15 _ (List.mem_of_getElem? (i := 3) rfl)
theorem wq_15_4 : Cond.selects RX7 yX7_comesGauge yX7_comesGauge ∈ wsL_law := wc_15 _ (List.mem_of_getElem? (i := 4) rfl)
theorem wq_15_5 : Cond.code yX7_comesGauge cX7_comesGauge 6 (some .int) ∈ wsL_law := wc_15 _ (List.mem_of_getElem? (i := 5) rfl)
theorem wq_15_6 : Cond.methodLink RL 41 yX6_tune ∈ wsL_law := wc_15 _ (List.mem_of_getElem? (i := 6) rfl)
theorem wq_15_7 : Cond.instanceMethod yX6_tune ∈ wsL_law := wc_15 _ (List.mem_of_getElem? (i := 7) rfl)
theorem wq_15_8 : Cond.selects RX6 yX6_tune yX6_tune ∈ wsL_law := wc_15 _ (List.mem_of_getElem? (i := 8) rfl)
theorem wq_15_9 : Cond.code yX6_tune cX6_tune 3 (some .int) ∈ wsL_law := wc_15 _ (List.mem_of_getElem? (i := 9) rfl)
theorem wq_15_10 : Cond.methodLink RX6 70 yX4_adjust ∈ wsL_law := wc_15 _ (List.mem_of_getElem? (i := 10) rfl)
theorem wq_15_11 : Cond.instanceMethod yX4_adjust ∈ wsL_law := wc_15 _ (List.mem_of_getElem? (i := 11) rfl)
theorem wq_15_12 : Cond.selects RX4 yX4_adjust yX4_adjust ∈ wsL_law := wc_15 _ (List.mem_of_getElem? (i := 12) rfl)
theorem wq_15_13 : Cond.code yX4_adjust cX4_adjust 5 (some .int) ∈ wsL_law := wc_15 _ (List.mem_of_getElem? (i := 13) rfl)
theorem wq_15_14 : Cond.fieldLink RX4 88 "GaugeColumns$Gauge" "error" "I" ∈ wsL_law := wc_15 _ (List.mem_of_getElem? (i := 14) rfl)
theorem wq_15_15 : Cond.methodLink RX4 84 yX4_gaugeAt ∈ wsL_law := wc_15 _ (List.mem_of_getElem? (i := 15) rfl)
theorem wq_15_16 : Cond.instanceMethod yX4_gaugeAt ∈ wsL_law := wc_15 _ (List.mem_of_getElem? (i := 16) rfl)
theorem wq_15_17 : Cond.selects RX4 yX4_gaugeAt yX4_gaugeAt ∈ wsL_law := wc_15 _ (List.mem_of_getElem? (i := 17) rfl)
theorem wq_15_18 : Cond.code yX4_gaugeAt cX4_gaugeAt 2 (some (.object "GaugeColumns$Gauge")) ∈ wsL_law := wc_15 _ (List.mem_of_getElem? (i := 18) rfl)
theorem wq_15_19 : Cond.methodLink RL 44 yX7_tune ∈ wsL_law := wc_15 _ (List.mem_of_getElem? (i := 19) rfl)
theorem wq_15_20 : Cond.instanceMethod yX7_tune ∈ wsL_law := wc_15 _ (List.mem_of_getElem? (i := 20) rfl)
theorem wq_15_21 : Cond.selects RX7 yX7_tune yX7_tune ∈ wsL_law := wc_15 _ (List.mem_of_getElem? (i := 21) rfl)
theorem wq_15_22 : Cond.code yX7_tune cX7_tune 4 (some .int) ∈ wsL_law := wc_15 _ (List.mem_of_getElem? (i := 22) rfl)
theorem wq_15_23 : Cond.methodLink RX7 143 yX7_isGauge ∈ wsL_law := wc_15 _ (List.mem_of_getElem? (i := 23) rfl)
theorem wq_16_0 : Cond.instanceMethod yX7_isGauge ∈ wsL_law := wc_16 _ (List.mem_of_getElem? (i := 0) rfl)
theorem wq_16_1 : Cond.selects RX7 yX7_isGauge yX7_isGauge ∈ wsL_law := wc_16 _ (List.mem_of_getElem? (i := 1) rfl)
theorem wq_16_2 : Cond.code yX7_isGauge cX7_isGauge 2 (some .boolean) ∈ wsL_law := wc_16 _ (List.mem_of_getElem? (i := 2) rfl)
theorem wq_16_3 : Cond.methodLink RL 45 yX6_certify ∈ wsL_law := wc_16 _ (List.mem_of_getElem? (i := 3) rfl)
theorem wq_16_4 : Cond.instanceMethod yX6_certify ∈ wsL_law := wc_16 _ (List.mem_of_getElem? (i := 4) rfl)
theorem wq_16_5 : Cond.selects RX6 yX6_certify yX6_certify ∈ wsL_law := wc_16 _ (List.mem_of_getElem? (i := 5) rfl)
theorem wq_16_6 : Cond.code yX6_certify cX6_certify 2 (some .int) ∈ wsL_law := wc_16 _ (List.mem_of_getElem? (i := 6) rfl)
theorem wq_16_7 : Cond.methodLink RX6 73 yX4_certifyBy ∈ wsL_law := wc_16 _ (List.mem_of_getElem? (i := 7) rfl)
theorem wq_16_8 : Cond.instanceMethod yX4_certifyBy ∈ wsL_law := wc_16 _ (List.mem_of_getElem? (i := 8) rfl)
theorem wq_16_9 : Cond.selects RX4 yX4_certifyBy yX4_certifyBy ∈ wsL_law := wc_16 _ (List.mem_of_getElem? (i := 9) rfl)
theorem wq_16_10 : Cond.code yX4_certifyBy cX4_certifyBy 4 (some .int) ∈ wsL_law := wc_16 _ (List.mem_of_getElem? (i := 10) rfl)
theorem wq_16_11 : Cond.fieldLink RX4 105 "GaugeColumns$Trial" "greatest" "I" ∈ wsL_law := wc_16 _ (List.mem_of_getElem? (i := 11) rfl)
theorem wq_16_12 : Cond.classLink RX4 108 RX0 ∈ wsL_law := wc_16 _ (List.mem_of_getElem? (i := 12) rfl)
theorem wq_16_13 : Cond.instantiable RX0 3 ∈ wsL_law := wc_16 _ (List.mem_of_getElem? (i := 13) rfl)
theorem wq_16_14 : Cond.initialized RX0 ∈ wsL_law := wc_16 _ (List.mem_of_getElem? (i := 14) rfl)
theorem wq_16_15 : Cond.methodLink RX4 95 yX5_prepare ∈ wsL_law := wc_16 _ (List.mem_of_getElem? (i := 15) rfl)
theorem wq_16_16 : Cond.instanceMethod yX5_prepare ∈ wsL_law := wc_16 _ (List.mem_of_getElem? (i := 16) rfl)
theorem wq_16_17 : Cond.selects RX5 yX5_prepare yX5_prepare ∈ wsL_law := wc_16 _ (List.mem_of_getElem? (i := 17) rfl)
theorem wq_16_18 : Cond.code yX5_prepare cX5_prepare 5 none ∈ wsL_law := wc_16 _ (List.mem_of_getElem? (i := 18) rfl)
theorem wq_16_19 : Cond.fieldLink RX5 28 "GaugeColumns$Tester" "ringCount" "I" ∈ wsL_law := wc_16 _ (List.mem_of_getElem? (i := 19) rfl)
theorem wq_16_20 : Cond.fieldLink RX5 38 "GaugeColumns$Tester" "grams" "[I" ∈ wsL_law := wc_16 _ (List.mem_of_getElem? (i := 20) rfl)
theorem wq_16_21 : Cond.fieldLink RX5 41 "GaugeColumns$Tester" "settings" "[I" ∈ wsL_law := wc_16 _ (List.mem_of_getElem? (i := 21) rfl)
theorem wq_16_22 : Cond.fieldLink RX5 48 "GaugeColumns$Trial" "length" "I" ∈ wsL_law := wc_16 _ (List.mem_of_getElem? (i := 22) rfl)
theorem wq_16_23 : Cond.methodLink RX5 34 yX4_placeOf ∈ wsL_law := wc_16 _ (List.mem_of_getElem? (i := 23) rfl)
theorem wq_17_0 : Cond.instanceMethod yX4_placeOf ∈ wsL_law := wc_17 _ (List.mem_of_getElem? (i := 0) rfl)
theorem wq_17_1 : Cond.selects RX4 yX4_placeOf yX4_placeOf ∈ wsL_law := wc_17 _ (List.mem_of_getElem? (i := 1) rfl)
theorem wq_17_2 : Cond.code yX4_placeOf cX4_placeOf 4 (some .int) ∈ wsL_law := wc_17 _ (List.mem_of_getElem? (i := 2) rfl)
theorem wq_17_3 : Cond.methodLink RX5 44 yX4_pressureOf ∈ wsL_law := wc_17 _ (List.mem_of_getElem? (i := 3) rfl)
theorem wq_17_4 : Cond.methodLink RX4 101 yX5_run ∈ wsL_law := wc_17 _ (List.mem_of_getElem? (i := 4) rfl)
theorem wq_17_5 : Cond.instanceMethod yX5_run ∈ wsL_law := wc_17 _ (List.mem_of_getElem? (i := 5) rfl)
theorem wq_17_6 : Cond.selects RX5 yX5_run yX5_run ∈ wsL_law := wc_17 _ (List.mem_of_getElem? (i := 6) rfl)
theorem wq_17_7 : Cond.code yX5_run cX5_run 6 none ∈ wsL_law := wc_17 _ (List.mem_of_getElem? (i := 7) rfl)
theorem wq_17_8 : Cond.fieldLink RX5 51 "GaugeColumns$Gauge" "play" "I" ∈ wsL_law := wc_17 _ (List.mem_of_getElem? (i := 8) rfl)
theorem wq_17_9 : Cond.fieldLink RX5 54 "GaugeColumns$Gauge" "step" "I" ∈ wsL_law := wc_17 _ (List.mem_of_getElem? (i := 9) rfl)
theorem wq_17_10 : Cond.fieldLink RX5 61 "GaugeColumns$Trial" "greatest" "I" ∈ wsL_law := wc_17 _ (List.mem_of_getElem? (i := 10) rfl)
theorem wq_17_11 : Cond.fieldLink RX5 64 "GaugeColumns$Trial" "worst" "I" ∈ wsL_law := wc_17 _ (List.mem_of_getElem? (i := 11) rfl)
theorem wq_17_12 : Cond.methodLink RX5 75 Lib.Math.abs.name ∈ wsL_law := wc_17 _ (List.mem_of_getElem? (i := 12) rfl)
theorem wq_17_13 : Cond.methodLink RX5 57 yX1_begin ∈ wsL_law := wc_17 _ (List.mem_of_getElem? (i := 13) rfl)
theorem wq_17_14 : Cond.methodLink RX5 67 yX1_follow ∈ wsL_law := wc_17 _ (List.mem_of_getElem? (i := 14) rfl)
theorem wq_17_15 : Cond.methodLink RX5 71 yX1_shown ∈ wsL_law := wc_17 _ (List.mem_of_getElem? (i := 15) rfl)
theorem wq_17_16 : Cond.instanceMethod yX1_shown ∈ wsL_law := wc_17 _ (List.mem_of_getElem? (i := 16) rfl)
theorem wq_17_17 : Cond.selects RX1 yX1_shown yX1_shown ∈ wsL_law := wc_17 _ (List.mem_of_getElem? (i := 17) rfl)
theorem wq_17_18 : Cond.code yX1_shown cX1_shown 1 (some .int) ∈ wsL_law := wc_17 _ (List.mem_of_getElem? (i := 18) rfl)
theorem wq_17_19 : Cond.methodLink RX4 110 yX0_init ∈ wsL_law := wc_17 _ (List.mem_of_getElem? (i := 19) rfl)
theorem wq_17_20 : Cond.instanceMethod yX0_init ∈ wsL_law := wc_17 _ (List.mem_of_getElem? (i := 20) rfl)
theorem wq_17_21 : Cond.code yX0_init cX0_init 3 none ∈ wsL_law := wc_17 _ (List.mem_of_getElem? (i := 21) rfl)
theorem wq_17_22 : Cond.methodLink RX0 1 objectInit ∈ wsL_law := wc_17 _ (List.mem_of_getElem? (i := 22) rfl)
theorem wq_17_23 : Cond.fieldLink RX0 7 "GaugeColumns$Trial" "readings" "[I" ∈ wsL_law := wc_17 _ (List.mem_of_getElem? (i := 23) rfl)
theorem wq_18_0 : Cond.fieldLink RX0 13 "GaugeColumns$Trial" "length" "I" ∈ wsL_law := wc_18 _ (List.mem_of_getElem? (i := 0) rfl)
theorem wq_18_1 : Cond.fieldLink RX0 23 "GaugeColumns$Certificate" "readings" "[I" ∈ wsL_law := wc_18 _ (List.mem_of_getElem? (i := 1) rfl)
theorem wq_18_2 : Cond.fieldLink RX0 26 "GaugeColumns$Trial" "greatest" "I" ∈ wsL_law := wc_18 _ (List.mem_of_getElem? (i := 2) rfl)
theorem wq_18_3 : Cond.fieldLink RX0 29 "GaugeColumns$Certificate" "greatest" "I" ∈ wsL_law := wc_18 _ (List.mem_of_getElem? (i := 3) rfl)
theorem wq_18_4 : Cond.fieldLink RX0 30 "GaugeColumns$Certificate" "air" "I" ∈ wsL_law := wc_18 _ (List.mem_of_getElem? (i := 4) rfl)
theorem wq_18_5 : Cond.methodLink RX0 17 yJ7_copyOf_59c91 ∈ wsL_law := wc_18 _ (List.mem_of_getElem? (i := 5) rfl)
theorem wq_18_6 : Cond.static yJ7_copyOf_59c91 ∈ wsL_law := wc_18 _ (List.mem_of_getElem? (i := 6) rfl)
theorem wq_18_7 : Cond.initialized RJ7 ∈ wsL_law := wc_18 _ (List.mem_of_getElem? (i := 7) rfl)
theorem wq_18_8 : Cond.code yJ7_copyOf_59c91 cJ7_copyOf_59c91 3 (some (.array .int)) ∈ wsL_law := wc_18 _ (List.mem_of_getElem? (i := 8) rfl)
theorem wq_18_9 : Cond.methodLink RJ7 316 ⟨"[I", "clone", "()Ljava/lang/Object;"⟩ ∈ wsL_law := wc_18 _ (List.mem_of_getElem? (i := 9) rfl)
theorem wq_18_10 : Cond.classLink RJ7 317 "[I" ∈ wsL_law := wc_18 _ (List.mem_of_getElem? (i := 10) rfl)
theorem wq_18_11 : Cond.methodLink RJ7 304 Lib.Math.min.name ∈ wsL_law := wc_18 _ (List.mem_of_getElem? (i := 11) rfl)
theorem wq_18_12 : Cond.methodLink RJ7 150 arraycopyName ∈ wsL_law := wc_18 _ (List.mem_of_getElem? (i := 12) rfl)
theorem wq_18_13 : Cond.methodLink RL 48 yX7_certify ∈ wsL_law := wc_18 _ (List.mem_of_getElem? (i := 13) rfl)
theorem wq_18_14 : Cond.instanceMethod yX7_certify ∈ wsL_law := wc_18 _ (List.mem_of_getElem? (i := 14) rfl)
theorem wq_18_15 : Cond.selects RX7 yX7_certify yX7_certify ∈ wsL_law := wc_18 _ (List.mem_of_getElem? (i := 15) rfl)
theorem wq_18_16 : Cond.code yX7_certify cX7_certify 3 (some .int) ∈ wsL_law := wc_18 _ (List.mem_of_getElem? (i := 16) rfl)
theorem wq_18_17 : Cond.methodLink RX7 150 yX7_whyNotCertified ∈ wsL_law := wc_18 _ (List.mem_of_getElem? (i := 17) rfl)
theorem wq_18_18 : Cond.instanceMethod yX7_whyNotCertified ∈ wsL_law := wc_18 _ (List.mem_of_getElem? (i := 18) rfl)
theorem wq_18_19 : Cond.selects RX7 yX7_whyNotCertified yX7_whyNotCertified ∈ wsL_law := wc_18 _ (List.mem_of_getElem? (i := 19) rfl)
theorem wq_18_20 : Cond.code yX7_whyNotCertified cX7_whyNotCertified 2 (some .int) ∈ wsL_law := wc_18 _ (List.mem_of_getElem? (i := 20) rfl)
theorem wq_18_21 : Cond.methodLink RX7 153 yX7_certifies ∈ wsL_law := wc_18 _ (List.mem_of_getElem? (i := 21) rfl)
theorem wq_18_22 : Cond.instanceMethod yX7_certifies ∈ wsL_law := wc_18 _ (List.mem_of_getElem? (i := 22) rfl)
theorem wq_18_23 : Cond.selects RX7 yX7_certifies yX7_certifies ∈ wsL_law := wc_18 _ (List.mem_of_getElem? (i := 23) rfl)
theorem wq_19_0 : Cond.code yX7_certifies cX7_certifies 3 (some .int) ∈ wsL_law := wc_19 _ (List.mem_of_getElem? (i := 0) rfl)
theorem wq_19_1 : Cond.fieldLink RX7 85 "GaugeColumnsModel" "greatest" "I" ∈ wsL_law := wc_19 _ (List.mem_of_getElem? (i := 1) rfl)
theorem wq_19_2 : Cond.methodLink RX7 146 yX7_tests ∈ wsL_law := wc_19 _ (List.mem_of_getElem? (i := 2) rfl)
theorem wq_19_3 : Cond.instanceMethod yX7_tests ∈ wsL_law := wc_19 _ (List.mem_of_getElem? (i := 3) rfl)
theorem wq_19_4 : Cond.selects RX7 yX7_tests yX7_tests ∈ wsL_law := wc_19 _ (List.mem_of_getElem? (i := 4) rfl)
theorem wq_19_5 : Cond.code yX7_tests cX7_tests 10 none ∈ wsL_law := wc_19 _ (List.mem_of_getElem? (i := 5) rfl)
theorem wq_19_6 : Cond.fieldLink RX7 88 "GaugeColumnsModel" "placeOfGreatest" "I" ∈ wsL_law := wc_19 _ (List.mem_of_getElem? (i := 6) rfl)
theorem wq_19_7 : Cond.methodLink RX7 91 yX7_findOrder ∈ wsL_law := wc_19 _ (List.mem_of_getElem? (i := 7) rfl)
theorem wq_19_8 : Cond.instanceMethod yX7_findOrder ∈ wsL_law := wc_19 _ (List.mem_of_getElem? (i := 8) rfl)
theorem wq_19_9 : Cond.selects RX7 yX7_findOrder yX7_findOrder ∈ wsL_law := wc_19 _ (List.mem_of_getElem? (i := 9) rfl)
theorem wq_19_10 : Cond.code yX7_findOrder cX7_findOrder 3 none ∈ wsL_law := wc_19 _ (List.mem_of_getElem? (i := 10) rfl)
theorem wq_19_11 : Cond.methodLink RX7 94 yX7_reads ∈ wsL_law := wc_19 _ (List.mem_of_getElem? (i := 11) rfl)
theorem wq_19_12 : Cond.static yX7_reads ∈ wsL_law := wc_19 _ (List.mem_of_getElem? (i := 12) rfl)
theorem wq_19_13 : Cond.code yX7_reads cX7_reads 2 (some .int) ∈ wsL_law := wc_19 _ (List.mem_of_getElem? (i := 13) rfl)
theorem wq_19_14 : Cond.methodLink RL 49 yX6_ofRing ∈ wsL_law := wc_19 _ (List.mem_of_getElem? (i := 14) rfl)
theorem wq_19_15 : Cond.instanceMethod yX6_ofRing ∈ wsL_law := wc_19 _ (List.mem_of_getElem? (i := 15) rfl)
theorem wq_19_16 : Cond.selects RX6 yX6_ofRing yX6_ofRing ∈ wsL_law := wc_19 _ (List.mem_of_getElem? (i := 16) rfl)
theorem wq_19_17 : Cond.code yX6_ofRing cX6_ofRing 3 (some .int) ∈ wsL_law := wc_19 _ (List.mem_of_getElem? (i := 17) rfl)
theorem wq_19_18 : Cond.fieldLink RX6 81 "GaugeColumns$Tester" "grams" "[I" ∈ wsL_law := wc_19 _ (List.mem_of_getElem? (i := 18) rfl)
theorem wq_19_19 : Cond.methodLink RX6 77 yX4_hasRing ∈ wsL_law := wc_19 _ (List.mem_of_getElem? (i := 19) rfl)
theorem wq_19_20 : Cond.methodLink RX6 85 yX4_isStacked ∈ wsL_law := wc_19 _ (List.mem_of_getElem? (i := 20) rfl)
theorem wq_19_21 : Cond.methodLink RX6 88 yX4_placeOf ∈ wsL_law := wc_19 _ (List.mem_of_getElem? (i := 21) rfl)
theorem wq_19_22 : Cond.methodLink RL 52 yX7_ofRing ∈ wsL_law := wc_19 _ (List.mem_of_getElem? (i := 22) rfl)
theorem wq_19_23 : Cond.instanceMethod yX7_ofRing ∈ wsL_law := wc_19 _ (List.mem_of_getElem? (i := 23) rfl)
theorem wq_20_0 : Cond.selects RX7 yX7_ofRing yX7_ofRing ∈ wsL_law := wc_20 _ (List.mem_of_getElem? (i := 0) rfl)
theorem wq_20_1 : Cond.code yX7_ofRing cX7_ofRing 3 (some .int) ∈ wsL_law := wc_20 _ (List.mem_of_getElem? (i := 1) rfl)
theorem wq_20_2 : Cond.methodLink RX7 156 yX7_placeOf ∈ wsL_law := wc_20 _ (List.mem_of_getElem? (i := 2) rfl)
theorem wq_20_3 : Cond.instanceMethod yX7_placeOf ∈ wsL_law := wc_20 _ (List.mem_of_getElem? (i := 3) rfl)
theorem wq_20_4 : Cond.selects RX7 yX7_placeOf yX7_placeOf ∈ wsL_law := wc_20 _ (List.mem_of_getElem? (i := 4) rfl)
theorem wq_20_5 : Cond.code yX7_placeOf cX7_placeOf 4 (some .int) ∈ wsL_law := wc_20 _ (List.mem_of_getElem? (i := 5) rfl)
theorem wq_20_6 : Cond.methodLink RL 53 yX6_ofGauge ∈ wsL_law := wc_20 _ (List.mem_of_getElem? (i := 6) rfl)
theorem wq_20_7 : Cond.instanceMethod yX6_ofGauge ∈ wsL_law := wc_20 _ (List.mem_of_getElem? (i := 7) rfl)
theorem wq_20_8 : Cond.selects RX6 yX6_ofGauge yX6_ofGauge ∈ wsL_law := wc_20 _ (List.mem_of_getElem? (i := 8) rfl)
theorem wq_20_9 : Cond.code yX6_ofGauge cX6_ofGauge 4 (some .int) ∈ wsL_law := wc_20 _ (List.mem_of_getElem? (i := 9) rfl)
theorem wq_20_10 : Cond.methodLink RX6 91 yX4_gaugeAt ∈ wsL_law := wc_20 _ (List.mem_of_getElem? (i := 10) rfl)
theorem wq_20_11 : Cond.methodLink RX6 95 yX1_tell ∈ wsL_law := wc_20 _ (List.mem_of_getElem? (i := 11) rfl)
theorem wq_20_12 : Cond.instanceMethod yX1_tell ∈ wsL_law := wc_20 _ (List.mem_of_getElem? (i := 12) rfl)
theorem wq_20_13 : Cond.selects RX1 yX1_tell yX1_tell ∈ wsL_law := wc_20 _ (List.mem_of_getElem? (i := 13) rfl)
theorem wq_20_14 : Cond.code yX1_tell cX1_tell 2 (some .int) ∈ wsL_law := wc_20 _ (List.mem_of_getElem? (i := 14) rfl)
theorem wq_20_15 : Cond.fieldLink RX1 45 "GaugeColumns$Certificate" "greatest" "I" ∈ wsL_law := wc_20 _ (List.mem_of_getElem? (i := 15) rfl)
theorem wq_20_16 : Cond.fieldLink RX1 50 "GaugeColumns$Certificate" "air" "I" ∈ wsL_law := wc_20 _ (List.mem_of_getElem? (i := 16) rfl)
theorem wq_20_17 : Cond.methodLink RX1 41 yX1_shown ∈ wsL_law := wc_20 _ (List.mem_of_getElem? (i := 17) rfl)
theorem wq_20_18 : Cond.methodLink RL 56 yX7_ofGauge ∈ wsL_law := wc_20 _ (List.mem_of_getElem? (i := 18) rfl)
theorem wq_20_19 : Cond.instanceMethod yX7_ofGauge ∈ wsL_law := wc_20 _ (List.mem_of_getElem? (i := 19) rfl)
theorem wq_20_20 : Cond.selects RX7 yX7_ofGauge yX7_ofGauge ∈ wsL_law := wc_20 _ (List.mem_of_getElem? (i := 20) rfl)
theorem wq_20_21 : Cond.code yX7_ofGauge cX7_ofGauge 4 (some .int) ∈ wsL_law := wc_20 _ (List.mem_of_getElem? (i := 21) rfl)
theorem wq_20_22 : Cond.methodLink RL 57 yX6_reading ∈ wsL_law := wc_20 _ (List.mem_of_getElem? (i := 22) rfl)
theorem wq_20_23 : Cond.instanceMethod yX6_reading ∈ wsL_law := wc_20 _ (List.mem_of_getElem? (i := 23) rfl)
theorem wq_21_0 : Cond.selects RX6 yX6_reading yX6_reading ∈ wsL_law := wc_21 _ (List.mem_of_getElem? (i := 0) rfl)
theorem wq_21_1 : Cond.code yX6_reading cX6_reading 5 (some .int) ∈ wsL_law := wc_21 _ (List.mem_of_getElem? (i := 1) rfl)
theorem wq_21_2 : Cond.fieldLink RX6 100 "GaugeColumns$Gauge" "certificate" "LGaugeColumns$Certificate;" ∈ wsL_law := wc_21 _ (List.mem_of_getElem? (i := 2) rfl)
theorem wq_21_3 : Cond.fieldLink RX6 104 "GaugeColumns$Certificate" "readings" "[I" ∈ wsL_law := wc_21 _ (List.mem_of_getElem? (i := 3) rfl)
theorem wq_21_4 : Cond.methodLink RL 60 yX7_reading ∈ wsL_law := wc_21 _ (List.mem_of_getElem? (i := 4) rfl)
theorem wq_21_5 : Cond.instanceMethod yX7_reading ∈ wsL_law := wc_21 _ (List.mem_of_getElem? (i := 5) rfl)
theorem wq_21_6 : Cond.selects RX7 yX7_reading yX7_reading ∈ wsL_law := wc_21 _ (List.mem_of_getElem? (i := 6) rfl)
theorem wq_21_7 : Cond.code yX7_reading cX7_reading 3 (some .int) ∈ wsL_law := wc_21 _ (List.mem_of_getElem? (i := 7) rfl)
theorem wq_21_8 : Cond.methodLink RL 61 yX6_count ∈ wsL_law := wc_21 _ (List.mem_of_getElem? (i := 8) rfl)
theorem wq_21_9 : Cond.instanceMethod yX6_count ∈ wsL_law := wc_21 _ (List.mem_of_getElem? (i := 9) rfl)
theorem wq_21_10 : Cond.selects RX6 yX6_count yX6_count ∈ wsL_law := wc_21 _ (List.mem_of_getElem? (i := 10) rfl)
theorem wq_21_11 : Cond.code yX6_count cX6_count 2 (some .int) ∈ wsL_law := wc_21 _ (List.mem_of_getElem? (i := 11) rfl)
theorem wq_21_12 : Cond.fieldLink RX6 109 "GaugeColumns$Tester" "ringCount" "I" ∈ wsL_law := wc_21 _ (List.mem_of_getElem? (i := 12) rfl)
theorem wq_21_13 : Cond.fieldLink RX6 113 "GaugeColumns$Tester" "gaugeCount" "I" ∈ wsL_law := wc_21 _ (List.mem_of_getElem? (i := 13) rfl)
theorem wq_21_14 : Cond.fieldLink RX6 116 "GaugeColumns$Tester" "column" "I" ∈ wsL_law := wc_21 _ (List.mem_of_getElem? (i := 14) rfl)
theorem wq_21_15 : Cond.fieldLink RX6 122 "GaugeColumns$Tester" "settings" "[I" ∈ wsL_law := wc_21 _ (List.mem_of_getElem? (i := 15) rfl)
theorem wq_21_16 : Cond.fieldLink RX6 134 "GaugeColumns$Pad" "length" "I" ∈ wsL_law := wc_21 _ (List.mem_of_getElem? (i := 16) rfl)
theorem wq_21_17 : Cond.fieldLink RX6 137 "GaugeColumns$History" "kept" "I" ∈ wsL_law := wc_21 _ (List.mem_of_getElem? (i := 17) rfl)
theorem wq_21_18 : Cond.methodLink RX6 119 yX4_massOf ∈ wsL_law := wc_21 _ (List.mem_of_getElem? (i := 18) rfl)
theorem wq_21_19 : Cond.methodLink RX6 125 yX6_weightOf ∈ wsL_law := wc_21 _ (List.mem_of_getElem? (i := 19) rfl)
theorem wq_21_20 : Cond.methodLink RX6 128 yX4_columnPressure ∈ wsL_law := wc_21 _ (List.mem_of_getElem? (i := 20) rfl)
theorem wq_21_21 : Cond.methodLink RX6 131 yX4_countCertificates ∈ wsL_law := wc_21 _ (List.mem_of_getElem? (i := 21) rfl)
theorem wq_21_22 : Cond.instanceMethod yX4_countCertificates ∈ wsL_law := wc_21 _ (List.mem_of_getElem? (i := 22) rfl)
theorem wq_21_23 : Cond.selects RX4 yX4_countCertificates yX4_countCertificates ∈ wsL_law := wc_21 _ (List.mem_of_getElem? (i := 23) rfl)
theorem wq_22_0 : Cond.code yX4_countCertificates cX4_countCertificates 3 (some .int) ∈ wsL_law := wc_22 _ (List.mem_of_getElem? (i := 0) rfl)
theorem wq_22_1 : Cond.methodLink RL 64 yX7_count ∈ wsL_law := wc_22 _ (List.mem_of_getElem? (i := 1) rfl)
theorem wq_22_2 : Cond.instanceMethod yX7_count ∈ wsL_law := wc_22 _ (List.mem_of_getElem? (i := 2) rfl)
theorem wq_22_3 : Cond.selects RX7 yX7_count yX7_count ∈ wsL_law := wc_22 _ (List.mem_of_getElem? (i := 3) rfl)
theorem wq_22_4 : Cond.code yX7_count cX7_count 2 (some .int) ∈ wsL_law := wc_22 _ (List.mem_of_getElem? (i := 4) rfl)
theorem wq_22_5 : Cond.fieldLink RX7 163 "GaugeColumnsModel" "padLength" "I" ∈ wsL_law := wc_22 _ (List.mem_of_getElem? (i := 5) rfl)
theorem wq_22_6 : Cond.methodLink RX7 159 yX7_certificates ∈ wsL_law := wc_22 _ (List.mem_of_getElem? (i := 6) rfl)
theorem wq_22_7 : Cond.instanceMethod yX7_certificates ∈ wsL_law := wc_22 _ (List.mem_of_getElem? (i := 7) rfl)
theorem wq_22_8 : Cond.selects RX7 yX7_certificates yX7_certificates ∈ wsL_law := wc_22 _ (List.mem_of_getElem? (i := 8) rfl)
theorem wq_22_9 : Cond.code yX7_certificates cX7_certificates 3 (some .int) ∈ wsL_law := wc_22 _ (List.mem_of_getElem? (i := 9) rfl)
theorem wq_22_10 : Cond.methodLink RL 65 yX6_pressure ∈ wsL_law := wc_22 _ (List.mem_of_getElem? (i := 10) rfl)
theorem wq_22_11 : Cond.instanceMethod yX6_pressure ∈ wsL_law := wc_22 _ (List.mem_of_getElem? (i := 11) rfl)
theorem wq_22_12 : Cond.selects RX6 yX6_pressure yX6_pressure ∈ wsL_law := wc_22 _ (List.mem_of_getElem? (i := 12) rfl)
theorem wq_22_13 : Cond.code yX6_pressure cX6_pressure 2 (some .int) ∈ wsL_law := wc_22 _ (List.mem_of_getElem? (i := 13) rfl)
theorem wq_22_14 : Cond.methodLink RX6 140 yX4_pressureOf ∈ wsL_law := wc_22 _ (List.mem_of_getElem? (i := 14) rfl)
theorem wq_22_15 : Cond.methodLink RL 68 yX7_pressure ∈ wsL_law := wc_22 _ (List.mem_of_getElem? (i := 15) rfl)
theorem wq_22_16 : Cond.instanceMethod yX7_pressure ∈ wsL_law := wc_22 _ (List.mem_of_getElem? (i := 16) rfl)
theorem wq_22_17 : Cond.selects RX7 yX7_pressure yX7_pressure ∈ wsL_law := wc_22 _ (List.mem_of_getElem? (i := 17) rfl)
theorem wq_22_18 : Cond.code yX7_pressure cX7_pressure 2 (some .int) ∈ wsL_law := wc_22 _ (List.mem_of_getElem? (i := 18) rfl)
theorem wq_22_19 : Cond.methodLink RL 69 yX6_nearest ∈ wsL_law := wc_22 _ (List.mem_of_getElem? (i := 19) rfl)
theorem wq_22_20 : Cond.instanceMethod yX6_nearest ∈ wsL_law := wc_22 _ (List.mem_of_getElem? (i := 20) rfl)
theorem wq_22_21 : Cond.selects RX6 yX6_nearest yX6_nearest ∈ wsL_law := wc_22 _ (List.mem_of_getElem? (i := 21) rfl)
theorem wq_22_22 : Cond.code yX6_nearest cX6_nearest 4 (some .int) ∈ wsL_law := wc_22 _ (List.mem_of_getElem? (i := 22) rfl)
theorem wq_22_23 : Cond.methodLink RX6 143 yX4_nearestTo ∈ wsL_law := wc_22 _ (List.mem_of_getElem? (i := 23) rfl)
theorem wq_23_0 : Cond.instanceMethod yX4_nearestTo ∈ wsL_law := wc_23 _ (List.mem_of_getElem? (i := 0) rfl)
theorem wq_23_1 : Cond.selects RX4 yX4_nearestTo yX4_nearestTo ∈ wsL_law := wc_23 _ (List.mem_of_getElem? (i := 1) rfl)
theorem wq_23_2 : Cond.code yX4_nearestTo cX4_nearestTo 7 (some .int) ∈ wsL_law := wc_23 _ (List.mem_of_getElem? (i := 2) rfl)
theorem wq_23_3 : Cond.constant RX4 127 (2147483647) ∈ wsL_law := wc_23 _ (List.mem_of_getElem? (i := 3) rfl)
theorem wq_23_4 : Cond.methodLink RX4 128 Lib.Math.abs.name ∈ wsL_law := wc_23 _ (List.mem_of_getElem? (i := 4) rfl)
theorem wq_23_5 : Cond.methodLink RX4 133 yJ6_bitCount_0f7a4 ∈ wsL_law := wc_23 _ (List.mem_of_getElem? (i := 5) rfl)
theorem wq_23_6 : Cond.static yJ6_bitCount_0f7a4 ∈ wsL_law := wc_23 _ (List.mem_of_getElem? (i := 6) rfl)
theorem wq_23_7 : Cond.initialized RJ6 ∈ wsL_law := wc_23 _ (List.mem_of_getElem? (i := 7) rfl)
theorem wq_23_8 : Cond.code yJ6_bitCount_0f7a4 cJ6_bitCount_0f7a4 1 (some .int) ∈ wsL_law := wc_23 _ (List.mem_of_getElem? (i := 8) rfl)
theorem wq_23_9 : Cond.constant RJ6 265 (1431655765) ∈ wsL_law := wc_23 _ (List.mem_of_getElem? (i := 9) rfl)
theorem wq_23_10 : Cond.constant RJ6 266 (858993459) ∈ wsL_law := wc_23 _ (List.mem_of_getElem? (i := 10) rfl)
theorem wq_23_11 : Cond.constant RJ6 267 (252645135) ∈ wsL_law := wc_23 _ (List.mem_of_getElem? (i := 11) rfl)
theorem wq_23_12 : Cond.methodLink RX4 138 yX4_massToNext ∈ wsL_law := wc_23 _ (List.mem_of_getElem? (i := 12) rfl)
theorem wq_23_13 : Cond.instanceMethod yX4_massToNext ∈ wsL_law := wc_23 _ (List.mem_of_getElem? (i := 13) rfl)
theorem wq_23_14 : Cond.selects RX4 yX4_massToNext yX4_massToNext ∈ wsL_law := wc_23 _ (List.mem_of_getElem? (i := 14) rfl)
theorem wq_23_15 : Cond.code yX4_massToNext cX4_massToNext 4 (some .int) ∈ wsL_law := wc_23 _ (List.mem_of_getElem? (i := 15) rfl)
theorem wq_23_16 : Cond.methodLink RL 72 yX7_nearest ∈ wsL_law := wc_23 _ (List.mem_of_getElem? (i := 16) rfl)
theorem wq_23_17 : Cond.instanceMethod yX7_nearest ∈ wsL_law := wc_23 _ (List.mem_of_getElem? (i := 17) rfl)
theorem wq_23_18 : Cond.selects RX7 yX7_nearest yX7_nearest ∈ wsL_law := wc_23 _ (List.mem_of_getElem? (i := 18) rfl)
theorem wq_23_19 : Cond.code yX7_nearest cX7_nearest 7 (some .int) ∈ wsL_law := wc_23 _ (List.mem_of_getElem? (i := 19) rfl)
theorem wq_23_20 : Cond.methodLink RX7 166 yX7_bits ∈ wsL_law := wc_23 _ (List.mem_of_getElem? (i := 20) rfl)
theorem wq_23_21 : Cond.static yX7_bits ∈ wsL_law := wc_23 _ (List.mem_of_getElem? (i := 21) rfl)
theorem wq_23_22 : Cond.code yX7_bits cX7_bits 3 (some .int) ∈ wsL_law := wc_23 _ (List.mem_of_getElem? (i := 22) rfl)
theorem wq_23_23 : Cond.methodLink RL 73 yX6_test ∈ wsL_law := wc_23 _ (List.mem_of_getElem? (i := 23) rfl)
theorem wq_24_0 : Cond.instanceMethod yX6_test ∈ wsL_law := wc_24 _ (List.mem_of_getElem? (i := 0) rfl)
theorem wq_24_1 : Cond.selects RX6 yX6_test yX6_test ∈ wsL_law := wc_24 _ (List.mem_of_getElem? (i := 1) rfl)
theorem wq_24_2 : Cond.code yX6_test cX6_test 4 (some .int) ∈ wsL_law := wc_24 _ (List.mem_of_getElem? (i := 2) rfl)
theorem wq_24_3 : Cond.fieldLink RX6 149 "GaugeColumns$Gauge" "error" "I" ∈ wsL_law := wc_24 _ (List.mem_of_getElem? (i := 3) rfl)
theorem wq_24_4 : Cond.fieldLink RX6 156 "GaugeColumns$Trial" "greatest" "I" ∈ wsL_law := wc_24 _ (List.mem_of_getElem? (i := 4) rfl)
theorem wq_24_5 : Cond.fieldLink RX6 159 "GaugeColumns$Trial" "worst" "I" ∈ wsL_law := wc_24 _ (List.mem_of_getElem? (i := 5) rfl)
theorem wq_24_6 : Cond.fieldLink RX6 162 "GaugeColumns$Trial" "length" "I" ∈ wsL_law := wc_24 _ (List.mem_of_getElem? (i := 6) rfl)
theorem wq_24_7 : Cond.methodLink RX6 146 yX5_prepare ∈ wsL_law := wc_24 _ (List.mem_of_getElem? (i := 7) rfl)
theorem wq_24_8 : Cond.methodLink RX6 152 yX5_run ∈ wsL_law := wc_24 _ (List.mem_of_getElem? (i := 8) rfl)
theorem wq_24_9 : Cond.methodLink RL 76 yX7_test ∈ wsL_law := wc_24 _ (List.mem_of_getElem? (i := 9) rfl)
theorem wq_24_10 : Cond.instanceMethod yX7_test ∈ wsL_law := wc_24 _ (List.mem_of_getElem? (i := 10) rfl)
theorem wq_24_11 : Cond.selects RX7 yX7_test yX7_test ∈ wsL_law := wc_24 _ (List.mem_of_getElem? (i := 11) rfl)
theorem wq_24_12 : Cond.code yX7_test cX7_test 3 (some .int) ∈ wsL_law := wc_24 _ (List.mem_of_getElem? (i := 12) rfl)
theorem wq_24_13 : Cond.methodLink RL 77 yX6_bestError ∈ wsL_law := wc_24 _ (List.mem_of_getElem? (i := 13) rfl)
theorem wq_24_14 : Cond.instanceMethod yX6_bestError ∈ wsL_law := wc_24 _ (List.mem_of_getElem? (i := 14) rfl)
theorem wq_24_15 : Cond.selects RX6 yX6_bestError yX6_bestError ∈ wsL_law := wc_24 _ (List.mem_of_getElem? (i := 15) rfl)
theorem wq_24_16 : Cond.code yX6_bestError cX6_bestError 7 (some .int) ∈ wsL_law := wc_24 _ (List.mem_of_getElem? (i := 16) rfl)
theorem wq_24_17 : Cond.constant RX6 163 (2147483647) ∈ wsL_law := wc_24 _ (List.mem_of_getElem? (i := 17) rfl)
theorem wq_24_18 : Cond.methodLink RL 80 yX7_bestError ∈ wsL_law := wc_24 _ (List.mem_of_getElem? (i := 18) rfl)
theorem wq_24_19 : Cond.instanceMethod yX7_bestError ∈ wsL_law := wc_24 _ (List.mem_of_getElem? (i := 19) rfl)
theorem wq_24_20 : Cond.selects RX7 yX7_bestError yX7_bestError ∈ wsL_law := wc_24 _ (List.mem_of_getElem? (i := 20) rfl)
theorem wq_24_21 : Cond.code yX7_bestError cX7_bestError 7 (some .int) ∈ wsL_law := wc_24 _ (List.mem_of_getElem? (i := 21) rfl)
theorem wq_24_22 : Cond.methodLink RL 81 yX6_airCosts ∈ wsL_law := wc_24 _ (List.mem_of_getElem? (i := 22) rfl)
theorem wq_24_23 : Cond.instanceMethod yX6_airCosts ∈ wsL_law := wc_24 _ (List.mem_of_getElem? (i := 23) rfl)
theorem wq_25_0 : Cond.selects RX6 yX6_airCosts yX6_airCosts ∈ wsL_law := wc_25 _ (List.mem_of_getElem? (i := 0) rfl)
theorem wq_25_1 : Cond.code yX6_airCosts cX6_airCosts 2 (some .int) ∈ wsL_law := wc_25 _ (List.mem_of_getElem? (i := 1) rfl)
theorem wq_25_2 : Cond.fieldLink RX6 164 "GaugeColumns" "LEAST" "[I" ∈ wsL_law := wc_25 _ (List.mem_of_getElem? (i := 2) rfl)
theorem wq_25_3 : Cond.fieldLink RX6 167 "GaugeColumns" "MOST" "[I" ∈ wsL_law := wc_25 _ (List.mem_of_getElem? (i := 3) rfl)
theorem wq_25_4 : Cond.methodLink RL 84 yX7_airCosts ∈ wsL_law := wc_25 _ (List.mem_of_getElem? (i := 4) rfl)
theorem wq_25_5 : Cond.instanceMethod yX7_airCosts ∈ wsL_law := wc_25 _ (List.mem_of_getElem? (i := 5) rfl)
theorem wq_25_6 : Cond.selects RX7 yX7_airCosts yX7_airCosts ∈ wsL_law := wc_25 _ (List.mem_of_getElem? (i := 6) rfl)
theorem wq_25_7 : Cond.code yX7_airCosts cX7_airCosts 3 (some .int) ∈ wsL_law := wc_25 _ (List.mem_of_getElem? (i := 7) rfl)
theorem wq_25_8 : Cond.methodLink RL 87 yX6_put ∈ wsL_law := wc_25 _ (List.mem_of_getElem? (i := 8) rfl)
theorem wq_25_9 : Cond.instanceMethod yX6_put ∈ wsL_law := wc_25 _ (List.mem_of_getElem? (i := 9) rfl)
theorem wq_25_10 : Cond.selects RX6 yX6_put yX6_put ∈ wsL_law := wc_25 _ (List.mem_of_getElem? (i := 10) rfl)
theorem wq_25_11 : Cond.code yX6_put cX6_put 3 (some .int) ∈ wsL_law := wc_25 _ (List.mem_of_getElem? (i := 11) rfl)
theorem wq_25_12 : Cond.methodLink RX6 170 yX3_append ∈ wsL_law := wc_25 _ (List.mem_of_getElem? (i := 12) rfl)
theorem wq_25_13 : Cond.instanceMethod yX3_append ∈ wsL_law := wc_25 _ (List.mem_of_getElem? (i := 13) rfl)
theorem wq_25_14 : Cond.selects RX3 yX3_append yX3_append ∈ wsL_law := wc_25 _ (List.mem_of_getElem? (i := 14) rfl)
theorem wq_25_15 : Cond.code yX3_append cX3_append 5 (some .int) ∈ wsL_law := wc_25 _ (List.mem_of_getElem? (i := 15) rfl)
theorem wq_25_16 : Cond.fieldLink RX3 23 "GaugeColumns$Pad" "length" "I" ∈ wsL_law := wc_25 _ (List.mem_of_getElem? (i := 16) rfl)
theorem wq_25_17 : Cond.constantLong RX3 27 (255) ∈ wsL_law := wc_25 _ (List.mem_of_getElem? (i := 17) rfl)
theorem wq_25_18 : Cond.methodLink RX3 19 yX3_howMany ∈ wsL_law := wc_25 _ (List.mem_of_getElem? (i := 18) rfl)
theorem wq_25_19 : Cond.static yX3_howMany ∈ wsL_law := wc_25 _ (List.mem_of_getElem? (i := 19) rfl)
theorem wq_25_20 : Cond.code yX3_howMany cX3_howMany 5 (some .int) ∈ wsL_law := wc_25 _ (List.mem_of_getElem? (i := 20) rfl)
theorem wq_25_21 : Cond.constantLong RX3 29 (33) ∈ wsL_law := wc_25 _ (List.mem_of_getElem? (i := 21) rfl)
theorem wq_25_22 : Cond.constantLong RX3 31 (126) ∈ wsL_law := wc_25 _ (List.mem_of_getElem? (i := 22) rfl)
theorem wq_25_23 : Cond.methodLink RL 91 yX7_put ∈ wsL_law := wc_25 _ (List.mem_of_getElem? (i := 23) rfl)
theorem wq_26_0 : Cond.instanceMethod yX7_put ∈ wsL_law := wc_26 _ (List.mem_of_getElem? (i := 0) rfl)
theorem wq_26_1 : Cond.selects RX7 yX7_put yX7_put ∈ wsL_law := wc_26 _ (List.mem_of_getElem? (i := 1) rfl)
theorem wq_26_2 : Cond.code yX7_put cX7_put 8 (some .int) ∈ wsL_law := wc_26 _ (List.mem_of_getElem? (i := 2) rfl)
theorem wq_26_3 : Cond.constantLong RX7 169 (255) ∈ wsL_law := wc_26 _ (List.mem_of_getElem? (i := 3) rfl)
theorem wq_26_4 : Cond.methodLink RL 92 yX6_wipe ∈ wsL_law := wc_26 _ (List.mem_of_getElem? (i := 4) rfl)
theorem wq_26_5 : Cond.instanceMethod yX6_wipe ∈ wsL_law := wc_26 _ (List.mem_of_getElem? (i := 5) rfl)
theorem wq_26_6 : Cond.selects RX6 yX6_wipe yX6_wipe ∈ wsL_law := wc_26 _ (List.mem_of_getElem? (i := 6) rfl)
theorem wq_26_7 : Cond.code yX6_wipe cX6_wipe 1 (some .int) ∈ wsL_law := wc_26 _ (List.mem_of_getElem? (i := 7) rfl)
theorem wq_26_8 : Cond.methodLink RX6 174 yX3_clear ∈ wsL_law := wc_26 _ (List.mem_of_getElem? (i := 8) rfl)
theorem wq_26_9 : Cond.instanceMethod yX3_clear ∈ wsL_law := wc_26 _ (List.mem_of_getElem? (i := 9) rfl)
theorem wq_26_10 : Cond.selects RX3 yX3_clear yX3_clear ∈ wsL_law := wc_26 _ (List.mem_of_getElem? (i := 10) rfl)
theorem wq_26_11 : Cond.code yX3_clear cX3_clear 2 (some .int) ∈ wsL_law := wc_26 _ (List.mem_of_getElem? (i := 11) rfl)
theorem wq_26_12 : Cond.methodLink RL 95 yX7_wipe ∈ wsL_law := wc_26 _ (List.mem_of_getElem? (i := 12) rfl)
theorem wq_26_13 : Cond.instanceMethod yX7_wipe ∈ wsL_law := wc_26 _ (List.mem_of_getElem? (i := 13) rfl)
theorem wq_26_14 : Cond.selects RX7 yX7_wipe yX7_wipe ∈ wsL_law := wc_26 _ (List.mem_of_getElem? (i := 14) rfl)
theorem wq_26_15 : Cond.code yX7_wipe cX7_wipe 2 (some .int) ∈ wsL_law := wc_26 _ (List.mem_of_getElem? (i := 15) rfl)
theorem wq_26_16 : Cond.methodLink RL 96 yX6_fault ∈ wsL_law := wc_26 _ (List.mem_of_getElem? (i := 16) rfl)
theorem wq_26_17 : Cond.instanceMethod yX6_fault ∈ wsL_law := wc_26 _ (List.mem_of_getElem? (i := 17) rfl)
theorem wq_26_18 : Cond.selects RX6 yX6_fault yX6_fault ∈ wsL_law := wc_26 _ (List.mem_of_getElem? (i := 18) rfl)
theorem wq_26_19 : Cond.code yX6_fault cX6_fault 1 (some .int) ∈ wsL_law := wc_26 _ (List.mem_of_getElem? (i := 19) rfl)
theorem wq_26_20 : Cond.methodLink RX6 177 yX3_findFault ∈ wsL_law := wc_26 _ (List.mem_of_getElem? (i := 20) rfl)
theorem wq_26_21 : Cond.instanceMethod yX3_findFault ∈ wsL_law := wc_26 _ (List.mem_of_getElem? (i := 21) rfl)
theorem wq_26_22 : Cond.selects RX3 yX3_findFault yX3_findFault ∈ wsL_law := wc_26 _ (List.mem_of_getElem? (i := 22) rfl)
theorem wq_26_23 : Cond.code yX3_findFault cX3_findFault 3 (some .int) ∈ wsL_law := wc_26 _ (List.mem_of_getElem? (i := 23) rfl)
theorem wq_27_0 : Cond.fieldLink RX3 40 "GaugeColumns$Pad" "cursor" "I" ∈ wsL_law := wc_27 _ (List.mem_of_getElem? (i := 0) rfl)
theorem wq_27_1 : Cond.methodLink RX3 33 yX3_rewind ∈ wsL_law := wc_27 _ (List.mem_of_getElem? (i := 1) rfl)
theorem wq_27_2 : Cond.instanceMethod yX3_rewind ∈ wsL_law := wc_27 _ (List.mem_of_getElem? (i := 2) rfl)
theorem wq_27_3 : Cond.selects RX3 yX3_rewind yX3_rewind ∈ wsL_law := wc_27 _ (List.mem_of_getElem? (i := 3) rfl)
theorem wq_27_4 : Cond.code yX3_rewind cX3_rewind 1 none ∈ wsL_law := wc_27 _ (List.mem_of_getElem? (i := 4) rfl)
theorem wq_27_5 : Cond.methodLink RX3 36 yX3_nextOrder ∈ wsL_law := wc_27 _ (List.mem_of_getElem? (i := 5) rfl)
theorem wq_27_6 : Cond.instanceMethod yX3_nextOrder ∈ wsL_law := wc_27 _ (List.mem_of_getElem? (i := 6) rfl)
theorem wq_27_7 : Cond.selects RX3 yX3_nextOrder yX3_nextOrder ∈ wsL_law := wc_27 _ (List.mem_of_getElem? (i := 7) rfl)
theorem wq_27_8 : Cond.code yX3_nextOrder cX3_nextOrder 1 (some .boolean) ∈ wsL_law := wc_27 _ (List.mem_of_getElem? (i := 8) rfl)
theorem wq_27_9 : Cond.fieldLink RX3 51 "GaugeColumns$Pad" "kind" "I" ∈ wsL_law := wc_27 _ (List.mem_of_getElem? (i := 9) rfl)
theorem wq_27_10 : Cond.methodLink RX3 43 yX3_pass ∈ wsL_law := wc_27 _ (List.mem_of_getElem? (i := 10) rfl)
theorem wq_27_11 : Cond.instanceMethod yX3_pass ∈ wsL_law := wc_27 _ (List.mem_of_getElem? (i := 11) rfl)
theorem wq_27_12 : Cond.selects RX3 yX3_pass yX3_pass ∈ wsL_law := wc_27 _ (List.mem_of_getElem? (i := 12) rfl)
theorem wq_27_13 : Cond.code yX3_pass cX3_pass 2 (some .boolean) ∈ wsL_law := wc_27 _ (List.mem_of_getElem? (i := 13) rfl)
theorem wq_27_14 : Cond.methodLink RX3 47 yX3_signAt ∈ wsL_law := wc_27 _ (List.mem_of_getElem? (i := 14) rfl)
theorem wq_27_15 : Cond.instanceMethod yX3_signAt ∈ wsL_law := wc_27 _ (List.mem_of_getElem? (i := 15) rfl)
theorem wq_27_16 : Cond.selects RX3 yX3_signAt yX3_signAt ∈ wsL_law := wc_27 _ (List.mem_of_getElem? (i := 16) rfl)
theorem wq_27_17 : Cond.code yX3_signAt cX3_signAt 2 (some .int) ∈ wsL_law := wc_27 _ (List.mem_of_getElem? (i := 17) rfl)
theorem wq_27_18 : Cond.methodLink RX3 54 yX3_readNumber ∈ wsL_law := wc_27 _ (List.mem_of_getElem? (i := 18) rfl)
theorem wq_27_19 : Cond.instanceMethod yX3_readNumber ∈ wsL_law := wc_27 _ (List.mem_of_getElem? (i := 19) rfl)
theorem wq_27_20 : Cond.selects RX3 yX3_readNumber yX3_readNumber ∈ wsL_law := wc_27 _ (List.mem_of_getElem? (i := 20) rfl)
theorem wq_27_21 : Cond.code yX3_readNumber cX3_readNumber 4 (some .boolean) ∈ wsL_law := wc_27 _ (List.mem_of_getElem? (i := 21) rfl)
theorem wq_27_22 : Cond.methodLink RX3 63 yX3_isDigit ∈ wsL_law := wc_27 _ (List.mem_of_getElem? (i := 22) rfl)
theorem wq_27_23 : Cond.static yX3_isDigit ∈ wsL_law := wc_27 _ (List.mem_of_getElem? (i := 23) rfl)
theorem wq_28_0 : Cond.code yX3_isDigit cX3_isDigit 1 (some .boolean) ∈ wsL_law := wc_28 _ (List.mem_of_getElem? (i := 0) rfl)
theorem wq_28_1 : Cond.methodLink RX3 57 yX3_readDigit ∈ wsL_law := wc_28 _ (List.mem_of_getElem? (i := 1) rfl)
theorem wq_28_2 : Cond.instanceMethod yX3_readDigit ∈ wsL_law := wc_28 _ (List.mem_of_getElem? (i := 2) rfl)
theorem wq_28_3 : Cond.selects RX3 yX3_readDigit yX3_readDigit ∈ wsL_law := wc_28 _ (List.mem_of_getElem? (i := 3) rfl)
theorem wq_28_4 : Cond.code yX3_readDigit cX3_readDigit 2 (some .boolean) ∈ wsL_law := wc_28 _ (List.mem_of_getElem? (i := 4) rfl)
theorem wq_28_5 : Cond.methodLink RX3 60 yX3_readValue ∈ wsL_law := wc_28 _ (List.mem_of_getElem? (i := 5) rfl)
theorem wq_28_6 : Cond.instanceMethod yX3_readValue ∈ wsL_law := wc_28 _ (List.mem_of_getElem? (i := 6) rfl)
theorem wq_28_7 : Cond.selects RX3 yX3_readValue yX3_readValue ∈ wsL_law := wc_28 _ (List.mem_of_getElem? (i := 7) rfl)
theorem wq_28_8 : Cond.code yX3_readValue cX3_readValue 2 (some .boolean) ∈ wsL_law := wc_28 _ (List.mem_of_getElem? (i := 8) rfl)
theorem wq_28_9 : Cond.methodLink RL 99 yX7_fault ∈ wsL_law := wc_28 _ (List.mem_of_getElem? (i := 9) rfl)
theorem wq_28_10 : Cond.instanceMethod yX7_fault ∈ wsL_law := wc_28 _ (List.mem_of_getElem? (i := 10) rfl)
theorem wq_28_11 : Cond.selects RX7 yX7_fault yX7_fault ∈ wsL_law := wc_28 _ (List.mem_of_getElem? (i := 11) rfl)
theorem wq_28_12 : Cond.code yX7_fault cX7_fault 1 (some .int) ∈ wsL_law := wc_28 _ (List.mem_of_getElem? (i := 12) rfl)
theorem wq_28_13 : Cond.methodLink RX7 205 yX7_findFault ∈ wsL_law := wc_28 _ (List.mem_of_getElem? (i := 13) rfl)
theorem wq_28_14 : Cond.instanceMethod yX7_findFault ∈ wsL_law := wc_28 _ (List.mem_of_getElem? (i := 14) rfl)
theorem wq_28_15 : Cond.selects RX7 yX7_findFault yX7_findFault ∈ wsL_law := wc_28 _ (List.mem_of_getElem? (i := 15) rfl)
theorem wq_28_16 : Cond.code yX7_findFault cX7_findFault 1 (some .int) ∈ wsL_law := wc_28 _ (List.mem_of_getElem? (i := 16) rfl)
theorem wq_28_17 : Cond.fieldLink RX7 171 "GaugeColumnsModel" "at" "I" ∈ wsL_law := wc_28 _ (List.mem_of_getElem? (i := 17) rfl)
theorem wq_28_18 : Cond.methodLink RX7 202 yX7_readsOrder ∈ wsL_law := wc_28 _ (List.mem_of_getElem? (i := 18) rfl)
theorem wq_28_19 : Cond.instanceMethod yX7_readsOrder ∈ wsL_law := wc_28 _ (List.mem_of_getElem? (i := 19) rfl)
theorem wq_28_20 : Cond.selects RX7 yX7_readsOrder yX7_readsOrder ∈ wsL_law := wc_28 _ (List.mem_of_getElem? (i := 20) rfl)
theorem wq_28_21 : Cond.code yX7_readsOrder cX7_readsOrder 1 (some .boolean) ∈ wsL_law := wc_28 _ (List.mem_of_getElem? (i := 21) rfl)
theorem wq_28_22 : Cond.fieldLink RX7 195 "GaugeColumnsModel" "letter" "I" ∈ wsL_law := wc_28 _ (List.mem_of_getElem? (i := 22) rfl)
theorem wq_28_23 : Cond.fieldLink RX7 186 "GaugeColumnsModel" "first" "I" ∈ wsL_law := wc_28 _ (List.mem_of_getElem? (i := 23) rfl)
theorem wq_29_0 : Cond.methodLink RX7 174 yX7_character ∈ wsL_law := wc_29 _ (List.mem_of_getElem? (i := 0) rfl)
theorem wq_29_1 : Cond.instanceMethod yX7_character ∈ wsL_law := wc_29 _ (List.mem_of_getElem? (i := 1) rfl)
theorem wq_29_2 : Cond.selects RX7 yX7_character yX7_character ∈ wsL_law := wc_29 _ (List.mem_of_getElem? (i := 2) rfl)
theorem wq_29_3 : Cond.code yX7_character cX7_character 2 (some .int) ∈ wsL_law := wc_29 _ (List.mem_of_getElem? (i := 3) rfl)
theorem wq_29_4 : Cond.methodLink RX7 183 yX7_takeNumber ∈ wsL_law := wc_29 _ (List.mem_of_getElem? (i := 4) rfl)
theorem wq_29_5 : Cond.instanceMethod yX7_takeNumber ∈ wsL_law := wc_29 _ (List.mem_of_getElem? (i := 5) rfl)
theorem wq_29_6 : Cond.selects RX7 yX7_takeNumber yX7_takeNumber ∈ wsL_law := wc_29 _ (List.mem_of_getElem? (i := 6) rfl)
theorem wq_29_7 : Cond.code yX7_takeNumber cX7_takeNumber 2 (some .int) ∈ wsL_law := wc_29 _ (List.mem_of_getElem? (i := 7) rfl)
theorem wq_29_8 : Cond.methodLink RX7 177 yX7_takeDigit ∈ wsL_law := wc_29 _ (List.mem_of_getElem? (i := 8) rfl)
theorem wq_29_9 : Cond.instanceMethod yX7_takeDigit ∈ wsL_law := wc_29 _ (List.mem_of_getElem? (i := 9) rfl)
theorem wq_29_10 : Cond.selects RX7 yX7_takeDigit yX7_takeDigit ∈ wsL_law := wc_29 _ (List.mem_of_getElem? (i := 10) rfl)
theorem wq_29_11 : Cond.code yX7_takeDigit cX7_takeDigit 2 (some .int) ∈ wsL_law := wc_29 _ (List.mem_of_getElem? (i := 11) rfl)
theorem wq_29_12 : Cond.methodLink RX7 198 yX7_readsGauge ∈ wsL_law := wc_29 _ (List.mem_of_getElem? (i := 12) rfl)
theorem wq_29_13 : Cond.instanceMethod yX7_readsGauge ∈ wsL_law := wc_29 _ (List.mem_of_getElem? (i := 13) rfl)
theorem wq_29_14 : Cond.selects RX7 yX7_readsGauge yX7_readsGauge ∈ wsL_law := wc_29 _ (List.mem_of_getElem? (i := 14) rfl)
theorem wq_29_15 : Cond.code yX7_readsGauge cX7_readsGauge 3 (some .boolean) ∈ wsL_law := wc_29 _ (List.mem_of_getElem? (i := 15) rfl)
theorem wq_29_16 : Cond.fieldLink RX7 189 "GaugeColumnsModel" "second" "I" ∈ wsL_law := wc_29 _ (List.mem_of_getElem? (i := 16) rfl)
theorem wq_29_17 : Cond.fieldLink RX7 192 "GaugeColumnsModel" "third" "I" ∈ wsL_law := wc_29 _ (List.mem_of_getElem? (i := 17) rfl)
theorem wq_29_18 : Cond.methodLink RX7 180 yX7_isNext ∈ wsL_law := wc_29 _ (List.mem_of_getElem? (i := 18) rfl)
theorem wq_29_19 : Cond.instanceMethod yX7_isNext ∈ wsL_law := wc_29 _ (List.mem_of_getElem? (i := 19) rfl)
theorem wq_29_20 : Cond.selects RX7 yX7_isNext yX7_isNext ∈ wsL_law := wc_29 _ (List.mem_of_getElem? (i := 20) rfl)
theorem wq_29_21 : Cond.code yX7_isNext cX7_isNext 3 (some .boolean) ∈ wsL_law := wc_29 _ (List.mem_of_getElem? (i := 21) rfl)
theorem wq_29_22 : Cond.methodLink RL 100 yX6_carryOut ∈ wsL_law := wc_29 _ (List.mem_of_getElem? (i := 22) rfl)
theorem wq_29_23 : Cond.instanceMethod yX6_carryOut ∈ wsL_law := wc_29 _ (List.mem_of_getElem? (i := 23) rfl)
theorem wq_30_0 : Cond.selects RX6 yX6_carryOut yX6_carryOut ∈ wsL_law := wc_30 _ (List.mem_of_getElem? (i := 0) rfl)
theorem wq_30_1 : Cond.code yX6_carryOut cX6_carryOut 2 (some .int) ∈ wsL_law := wc_30 _ (List.mem_of_getElem? (i := 1) rfl)
theorem wq_30_2 : Cond.methodLink RX6 180 yX3_rewind ∈ wsL_law := wc_30 _ (List.mem_of_getElem? (i := 2) rfl)
theorem wq_30_3 : Cond.methodLink RX6 183 yX3_nextOrder ∈ wsL_law := wc_30 _ (List.mem_of_getElem? (i := 3) rfl)
theorem wq_30_4 : Cond.methodLink RX6 187 yX6_carryOutOrder ∈ wsL_law := wc_30 _ (List.mem_of_getElem? (i := 4) rfl)
theorem wq_30_5 : Cond.instanceMethod yX6_carryOutOrder ∈ wsL_law := wc_30 _ (List.mem_of_getElem? (i := 5) rfl)
theorem wq_30_6 : Cond.selects RX6 yX6_carryOutOrder yX6_carryOutOrder ∈ wsL_law := wc_30 _ (List.mem_of_getElem? (i := 6) rfl)
theorem wq_30_7 : Cond.code yX6_carryOutOrder cX6_carryOutOrder 2 (some .int) ∈ wsL_law := wc_30 _ (List.mem_of_getElem? (i := 7) rfl)
theorem wq_30_8 : Cond.fieldLink RX6 190 "GaugeColumns$Pad" "numbers" "[I" ∈ wsL_law := wc_30 _ (List.mem_of_getElem? (i := 8) rfl)
theorem wq_30_9 : Cond.fieldLink RX6 193 "GaugeColumns$Pad" "kind" "I" ∈ wsL_law := wc_30 _ (List.mem_of_getElem? (i := 9) rfl)
theorem wq_30_10 : Cond.methodLink RL 103 yX7_carryOut ∈ wsL_law := wc_30 _ (List.mem_of_getElem? (i := 10) rfl)
theorem wq_30_11 : Cond.instanceMethod yX7_carryOut ∈ wsL_law := wc_30 _ (List.mem_of_getElem? (i := 11) rfl)
theorem wq_30_12 : Cond.selects RX7 yX7_carryOut yX7_carryOut ∈ wsL_law := wc_30 _ (List.mem_of_getElem? (i := 12) rfl)
theorem wq_30_13 : Cond.code yX7_carryOut cX7_carryOut 3 (some .int) ∈ wsL_law := wc_30 _ (List.mem_of_getElem? (i := 13) rfl)
theorem wq_30_14 : Cond.methodLink RX7 208 yX7_whyNotDone ∈ wsL_law := wc_30 _ (List.mem_of_getElem? (i := 14) rfl)
theorem wq_30_15 : Cond.instanceMethod yX7_whyNotDone ∈ wsL_law := wc_30 _ (List.mem_of_getElem? (i := 15) rfl)
theorem wq_30_16 : Cond.selects RX7 yX7_whyNotDone yX7_whyNotDone ∈ wsL_law := wc_30 _ (List.mem_of_getElem? (i := 16) rfl)
theorem wq_30_17 : Cond.code yX7_whyNotDone cX7_whyNotDone 1 (some .int) ∈ wsL_law := wc_30 _ (List.mem_of_getElem? (i := 17) rfl)
theorem wq_30_18 : Cond.methodLink RX7 211 yX7_does ∈ wsL_law := wc_30 _ (List.mem_of_getElem? (i := 18) rfl)
theorem wq_30_19 : Cond.instanceMethod yX7_does ∈ wsL_law := wc_30 _ (List.mem_of_getElem? (i := 19) rfl)
theorem wq_30_20 : Cond.selects RX7 yX7_does yX7_does ∈ wsL_law := wc_30 _ (List.mem_of_getElem? (i := 20) rfl)
theorem wq_30_21 : Cond.code yX7_does cX7_does 1 none ∈ wsL_law := wc_30 _ (List.mem_of_getElem? (i := 21) rfl)
theorem wq_30_22 : Cond.methodLink RL 104 yX6_undo ∈ wsL_law := wc_30 _ (List.mem_of_getElem? (i := 22) rfl)
theorem wq_30_23 : Cond.instanceMethod yX6_undo ∈ wsL_law := wc_30 _ (List.mem_of_getElem? (i := 23) rfl)
theorem wq_31_0 : Cond.selects RX6 yX6_undo yX6_undo ∈ wsL_law := wc_31 _ (List.mem_of_getElem? (i := 0) rfl)
theorem wq_31_1 : Cond.code yX6_undo cX6_undo 1 (some .int) ∈ wsL_law := wc_31 _ (List.mem_of_getElem? (i := 1) rfl)
theorem wq_31_2 : Cond.methodLink RX6 196 yX2_stepBack ∈ wsL_law := wc_31 _ (List.mem_of_getElem? (i := 2) rfl)
theorem wq_31_3 : Cond.instanceMethod yX2_stepBack ∈ wsL_law := wc_31 _ (List.mem_of_getElem? (i := 3) rfl)
theorem wq_31_4 : Cond.selects RX2 yX2_stepBack yX2_stepBack ∈ wsL_law := wc_31 _ (List.mem_of_getElem? (i := 4) rfl)
theorem wq_31_5 : Cond.code yX2_stepBack cX2_stepBack 2 (some .int) ∈ wsL_law := wc_31 _ (List.mem_of_getElem? (i := 5) rfl)
theorem wq_31_6 : Cond.methodLink RL 107 yX7_undo ∈ wsL_law := wc_31 _ (List.mem_of_getElem? (i := 6) rfl)
theorem wq_31_7 : Cond.instanceMethod yX7_undo ∈ wsL_law := wc_31 _ (List.mem_of_getElem? (i := 7) rfl)
theorem wq_31_8 : Cond.selects RX7 yX7_undo yX7_undo ∈ wsL_law := wc_31 _ (List.mem_of_getElem? (i := 8) rfl)
theorem wq_31_9 : Cond.code yX7_undo cX7_undo 1 (some .int) ∈ wsL_law := wc_31 _ (List.mem_of_getElem? (i := 9) rfl)
theorem wq_31_10 : Cond.methodLink RL 108 yX6_save ∈ wsL_law := wc_31 _ (List.mem_of_getElem? (i := 10) rfl)
theorem wq_31_11 : Cond.instanceMethod yX6_save ∈ wsL_law := wc_31 _ (List.mem_of_getElem? (i := 11) rfl)
theorem wq_31_12 : Cond.selects RX6 yX6_save yX6_save ∈ wsL_law := wc_31 _ (List.mem_of_getElem? (i := 12) rfl)
theorem wq_31_13 : Cond.code yX6_save cX6_save 2 (some .int) ∈ wsL_law := wc_31 _ (List.mem_of_getElem? (i := 13) rfl)
theorem wq_31_14 : Cond.methodLink RX6 200 yX4_copyFrom ∈ wsL_law := wc_31 _ (List.mem_of_getElem? (i := 14) rfl)
theorem wq_31_15 : Cond.methodLink RL 111 yX7_save ∈ wsL_law := wc_31 _ (List.mem_of_getElem? (i := 15) rfl)
theorem wq_31_16 : Cond.instanceMethod yX7_save ∈ wsL_law := wc_31 _ (List.mem_of_getElem? (i := 16) rfl)
theorem wq_31_17 : Cond.selects RX7 yX7_save yX7_save ∈ wsL_law := wc_31 _ (List.mem_of_getElem? (i := 17) rfl)
theorem wq_31_18 : Cond.code yX7_save cX7_save 2 (some .int) ∈ wsL_law := wc_31 _ (List.mem_of_getElem? (i := 18) rfl)
theorem wq_31_19 : Cond.methodLink RL 112 yX6_restore ∈ wsL_law := wc_31 _ (List.mem_of_getElem? (i := 19) rfl)
theorem wq_31_20 : Cond.instanceMethod yX6_restore ∈ wsL_law := wc_31 _ (List.mem_of_getElem? (i := 20) rfl)
theorem wq_31_21 : Cond.selects RX6 yX6_restore yX6_restore ∈ wsL_law := wc_31 _ (List.mem_of_getElem? (i := 21) rfl)
theorem wq_31_22 : Cond.code yX6_restore cX6_restore 2 (some .int) ∈ wsL_law := wc_31 _ (List.mem_of_getElem? (i := 22) rfl)
theorem wq_31_23 : Cond.methodLink RL 115 yX7_restore ∈ wsL_law := wc_31 _ (List.mem_of_getElem? (i := 23) rfl)
theorem wq_32_0 : Cond.instanceMethod yX7_restore ∈ wsL_law := wc_32 _ (List.mem_of_getElem? (i := 0) rfl)
theorem wq_32_1 : Cond.selects RX7 yX7_restore yX7_restore ∈ wsL_law := wc_32 _ (List.mem_of_getElem? (i := 1) rfl)
theorem wq_32_2 : Cond.code yX7_restore cX7_restore 2 (some .int) ∈ wsL_law := wc_32 _ (List.mem_of_getElem? (i := 2) rfl)
set_option maxRecDepth 100000 in
theorem w0_good : wsL_law.all goodWord = true := by decide +kernel
theorem w0_mem {w : Cond} (h : w ∈ wsL_law) : ∀ x : List Cond, GoodIn wsL_law x → GoodIn wsL_law (w :: x) := fun x hx u hu => by
  rcases List.mem_cons.mp hu with e | e
  · subst e; exact goodIn_sub (big := wsL_law) (ws := wsL_law) (fun _ h => h) w0_good u h
  · exact hx u e
theorem w0_all : GoodIn wsL_law wsL_law := goodIn_sub (fun _ h => h) w0_good
theorem w0_V {own C : String} {idx mL : Nat} {y : MethodName} {bytes : ByteArray} {rt : Option FieldType} (h1 : Cond.methodLink own idx y ∈ wsL_law) (h2 : Cond.instanceMethod y ∈ wsL_law) (h3 : Cond.selects C y y ∈ wsL_law) (h4 : Cond.initialized C ∈ wsL_law) (h5 : Cond.code y bytes mL rt ∈ wsL_law) : GoodIn wsL_law (wsV own idx C y (Cond.code y bytes mL rt :: wsL_law)) :=
  w0_mem h1 _ (w0_mem h2 _ (w0_mem h3 _ (w0_mem h4 _ (w0_mem h5 _ w0_all))))
theorem w0_S {own : String} {idx mL : Nat} {y : MethodName} {bytes : ByteArray} {rt : Option FieldType} (h1 : Cond.methodLink own idx y ∈ wsL_law) (h2 : Cond.static y ∈ wsL_law) (h4 : Cond.initialized y.cls ∈ wsL_law) (h5 : Cond.code y bytes mL rt ∈ wsL_law) : GoodIn wsL_law (va_wsS own idx y (Cond.code y bytes mL rt :: wsL_law)) :=
  w0_mem h1 _ (w0_mem h2 _ (w0_mem h4 _ (w0_mem h5 _ w0_all)))
theorem w0_C {y : MethodName} {mL : Nat} {bytes : ByteArray} {rt : Option FieldType} (h5 : Cond.code y bytes mL rt ∈ wsL_law) : GoodIn wsL_law (Cond.code y bytes mL rt :: wsL_law) := w0_mem h5 _ w0_all
end
section
/-! whole numbers for ints; a memory of whole numbers and references; a method's state by its pc, locals, stack, memory -/
def zI (x : Int) : Int32 := Int32.ofInt x
theorem zI_of (x : Int32) : zI x.toInt = x := Int32.ofInt_toInt x
theorem zI_int {x : Int} (h : -2147483648 ≤ x ∧ x < 2147483648) : (zI x).toInt = x := by
  unfold zI
  exact Int32.toInt_ofInt_of_le (by simpa using h.1) (by simpa using h.2)
theorem zI_rng (x : Int32) : -2147483648 ≤ x.toInt ∧ x.toInt < 2147483648 := ⟨by have := Int32.le_toInt x; simpa using this, by have := Int32.toInt_lt x; simpa using this⟩
theorem zI_add (a b : Int) : zI a + zI b = zI (a + b) := (Int32.ofInt_add a b).symm
theorem zI_sub (a b : Int) : zI a - zI b = zI (a - b) := (Int32.ofInt_sub a b).symm
theorem zI_mul (a b : Int) : zI a * zI b = zI (a * b) := (Int32.ofInt_mul a b).symm
theorem zI_neg (a : Int) : - zI a = zI (-a) := (Int32.ofInt_neg a).symm
theorem zI_nI (n : Nat) : zI (n : Int) = nI n := rfl
theorem zI_lt {a b : Int} (ha : -2147483648 ≤ a ∧ a < 2147483648) (hb : -2147483648 ≤ b ∧ b < 2147483648) : zI a < zI b ↔ a < b := by
  rw [Int32.lt_iff_toInt_lt, zI_int ha, zI_int hb]
theorem zI_le {a b : Int} (ha : -2147483648 ≤ a ∧ a < 2147483648) (hb : -2147483648 ≤ b ∧ b < 2147483648) : zI a ≤ zI b ↔ a ≤ b := by
  rw [Int32.le_iff_toInt_le, zI_int ha, zI_int hb]
theorem zI_eq {a b : Int} (ha : -2147483648 ≤ a ∧ a < 2147483648) (hb : -2147483648 ≤ b ∧ b < 2147483648) : zI a = zI b ↔ a = b := by
  rw [← Int32.toInt_inj, zI_int ha, zI_int hb]
theorem zI_0 : (0 : Int32) = zI 0 := by decide +kernel
theorem zI_div {a b : Int} (ha : 0 ≤ a ∧ a < 2147483648) (hb : 0 < b ∧ b < 2147483648) : zI a / zI b = zI (a / b) := by
  obtain ⟨n, rfl⟩ := Int.eq_ofNat_of_zero_le ha.1
  obtain ⟨k, rfl⟩ := Int.eq_ofNat_of_zero_le (Int.le_of_lt hb.1)
  rw [← Int.natCast_ediv, zI_nI, zI_nI, zI_nI]
  exact pk_div (by omega) (by omega) (by omega)
theorem zI_rem {a b : Int} (ha : 0 ≤ a ∧ a < 2147483648) (hb : 0 < b ∧ b < 2147483648) : zI a - zI a / zI b * zI b = zI (a % b) := by
  rw [zI_div ha hb, zI_mul, zI_sub]
  congr 1
  have := Int.mul_ediv_add_emod a b
  rw [Int.mul_comm] at this
  omega
theorem zI_idx {x : Int} {n : Nat} (h0 : 0 ≤ x) (h : x < (n : Int)) (hn : n < 2147483648) : vp_in (zI x) n ∧ (zI x).toNatClampNeg = x.toNat := by
  obtain ⟨k, rfl⟩ := Int.eq_ofNat_of_zero_le h0
  rw [zI_nI]
  exact ⟨vp_in_nI (by omega) (by omega), by rw [nI_clamp (by omega)]; rfl⟩
theorem zI_clamp {x : Int} (h0 : 0 ≤ x) (h : x < 2147483648) : (zI x).toNatClampNeg = x.toNat ∧ ¬ zI x < 0 := by
  obtain ⟨k, rfl⟩ := Int.eq_ofNat_of_zero_le h0
  rw [zI_nI]
  exact ⟨by rw [nI_clamp (by omega)]; rfl, nI_pos (by omega)⟩
abbrev MI : Type := Nat → Nat → Int
abbrev MR : Type := Nat → Nat → Option Nat
def u2 {α : Type} (f : Nat → Nat → α) (a k : Nat) (v : α) : Nat → Nat → α := fun b j => if b = a ∧ j = k then v else f b j
theorem u2_s {α : Type} (f : Nat → Nat → α) (a k : Nat) (v : α) : u2 f a k v a k = v := if_pos ⟨rfl, rfl⟩
theorem u2_a {α : Type} {f : Nat → Nat → α} {a k b j : Nat} {v : α} (h : b ≠ a) : u2 f a k v b j = f b j := if_neg fun q => h q.1
theorem u2_k {α : Type} {f : Nat → Nat → α} {a k b j : Nat} {v : α} (h : j ≠ k) : u2 f a k v b j = f b j := if_neg fun q => h q.2
theorem u2_row {α : Type} {f : Nat → Nat → α} {a k b : Nat} {v : α} (h : b ≠ a) : u2 f a k v b = f b := funext fun _ => u2_a h
def zty : Nat → Nat → FieldType
  | 0 => tyX0
  | 1 => tyX1
  | 2 => tyX2
  | 3 => tyX3
  | 4 => tyX4
  | 5 => tyX5
  | 6 => tyX6
  | _ => tyX7
def znf : Nat → Nat
  | 0 => 3
  | 1 => 5
  | 2 => 3
  | 3 => 5
  | 4 => 6
  | 5 => 7
  | 6 => 5
  | _ => 16
def zfv (ty : FieldType) (x : Int) (r : Option Nat) : Value := match ty with
  | .int => .int (zI x)
  | _ => va_rf r
def zfs (c : Nat) (I : MI) (R : MR) (a : Nat) : List Value := (List.range (znf c)).map (fun k => zfv (zty c k) (I a k) (R a k))
def zat (ct : Nat → ClassId) (K N : Nat → Nat) (I : MI) (R : MR) (a : Nat) : va_E :=
  if K a < 8 then .inr (K a, zfs (K a) I R a)
  else if K a = 8 then .inl (ct 0, N a, .inl (fun j => zI (I a j)))
  else if K a = 9 then .inl (ct 1, N a, .inl (fun j => zI (I a j)))
  else if K a = 10 then .inl (ct 2, N a, .inr (.inr (.inr (.inr (R a)))))
  else .inl (ct 3, N a, .inr (.inr (.inr (.inr (R a)))))
def ztys (ct : Nat → ClassId) : List (ClassId × FieldType) := [(ct 0, .char), (ct 1, .int), (ct 2, .object RX1), (ct 3, .object RX4)]
abbrev vwCl : List vw_C := [(RX0, TX0, 3), (RX1, TX1, 5), (RX2, TX2, 3), (RX3, TX3, 5), (RX4, TX4, 6), (RX5, TX5, 7), (RX6, TX6, 5), (RX7, TX7, 16)]
/-- what all methods of a run share: the classes, the arrays' classes, the heap of the law's start -/
abbrev GG : Type := va_G × (Nat → ClassId) × Heap
def Wh (G : GG) (z : Nat) (K N : Nat → Nat) (I : MI) (R : MR) (H : Heap) : Prop :=
  H.size = z ∧ G.2.2.size ≤ z ∧ (∀ q : Nat, q < G.2.2.size → H[q]? = G.2.2[q]?) ∧ ∀ a : Nat, G.2.2.size ≤ a → a < z → va_at G.1 vwCl (a, zat G.2.1 K N I R a) H
/-- the static arrays of GaugeColumns -/
def zsta (U : State) (H0 : Heap) (n : String) (f : Nat → Int) : Prop := ∃ t : Nat, va_Z RX6 n "[I" (.ref t) (fun q => H0.size ≤ q) U H0 ∧ ∃ cell : Cell, H0[t]? = some cell ∧ cell.vm = .none ∧ U.isArrayOf cell .int ∧ U.vm.findClass "[I" = some cell.cls ∧ cell.slots.size = 3 ∧ ∀ j : Nat, j < 3 → cell.slots[j]? = some (.int (zI (f j)))
def zF0 : Nat → Int := fun j => if j = 0 then 4 else if j = 1 then 10 else 50
def zF1 : Nat → Int := fun j => if j = 0 then 0 else if j = 1 then 1 else 0
def zF2 : Nat → Int := fun j => if j = 0 then 9 else if j = 1 then 99 else 999
/-- the words that a nest mate's links need -/
def znwF : List (String × Nat × String × String × String × String) := [(RX4, 9, RX6, "AT_FIRST", "[I", RX6), (RX4, 53, RX6, "LEAST", "[I", RX6), (RX4, 56, RX6, "MOST", "[I", RX6)]
def znwM : List (String × Nat × MethodName × String) := [(RX6, 29, yX5_init, RX6), (RX6, 36, yX3_init, RX6), (RX1, 34, yX6_dividedDown, RX6), (RX1, 38, yX6_dividedRounded, RX6), (RX4, 113, yX6_weightOf, RX6), (RX4, 117, yX6_dividedDown, RX6), (RX4, 32, yX1_init, RX6), (RX5, 17, yX1_init, RX6)]
def Wv (G : GG) (U : State) : Prop :=
  va_K G.1 vwCl (ztys G.2.1) U ∧ (zsta U G.2.2 "AT_FIRST" zF0 ∧ zsta U G.2.2 "LEAST" zF1 ∧ zsta U G.2.2 "MOST" zF2) ∧
  (∀ w ∈ znwF, va_Nw (.fieldLinkNest w.1 w.2.1 w.2.2.1 w.2.2.2.1 w.2.2.2.2.1 w.2.2.2.2.2) U) ∧ (∀ w ∈ znwM, va_Nw (.methodLinkNest w.1 w.2.1 w.2.2.1 w.2.2.2) U) ∧
  va_Nw (.castable "[I" "java/lang/Cloneable") U ∧ va_AO RX1 U ∧ va_AO RX4 U
theorem zsta_moved {u U : State} {H0 : Heap} {n : String} {f : Nat → Int} (hvm : u.vm.Alike U.vm) (h : zsta u H0 n f) : zsta U H0 n f := by
  obtain ⟨t, h1, cell, h2, h3, h4, h5, h6⟩ := h
  exact ⟨t, h1.moved hvm, cell, h2, h3, State.isArrayOf_alike hvm h4, by rw [hvm.findClass]; exact h5, h6⟩
theorem Wv.warm {G : GG} {s U : State} (hW : s.WarmedH U.vm) (h : Wv G s) : Wv G U := by
  obtain ⟨h1, ⟨a1, a2, a3⟩, h2, h3, h4, h5, h6⟩ := h
  exact ⟨h1.moved hW.alike, ⟨zsta_moved hW.alike a1, zsta_moved hW.alike a2, zsta_moved hW.alike a3⟩, fun w hw => (h2 w hw).warmF hW, fun w hw => (h3 w hw).warmM hW, h4.warmC hW, h5.moved hW.alike, h6.moved hW.alike⟩
theorem Wv.calling {G : GG} {U : State} {g : JFrame} {mk : MethodId} {a : Array Value} (h : Wv G U) : Wv G (U.calling g mk a) := by
  obtain ⟨h1, ⟨a1, a2, a3⟩, h2, h3, h4, h5, h6⟩ := h
  have hA : U.vm.Alike (U.calling g mk a).vm := Vm.Alike.refl U.vm
  exact ⟨h1.moved hA, ⟨zsta_moved hA a1, zsta_moved hA a2, zsta_moved hA a3⟩, fun w hw => (h2 w hw).same rfl rfl, fun w hw => (h3 w hw).same rfl rfl, h4.same rfl rfl, h5.moved hA, h6.moved hA⟩
def zK (G : GG) (z : Nat) (K : Nat → Nat) (a c : Nat) : Prop := G.2.2.size ≤ a ∧ a < z ∧ K a = c
theorem zat_o {ct : Nat → ClassId} {K N : Nat → Nat} {I : MI} {R : MR} {a c : Nat} (h : K a = c) (hc : c < 8) : zat ct K N I R a = .inr (c, zfs c I R a) := by
  subst h; exact if_pos hc
theorem zat_c {ct : Nat → ClassId} {K N : Nat → Nat} {I : MI} {R : MR} {a : Nat} (h : K a = 8) : zat ct K N I R a = .inl (ct 0, N a, .inl (fun j => zI (I a j))) := by
  simp [zat, h]
theorem zat_i {ct : Nat → ClassId} {K N : Nat → Nat} {I : MI} {R : MR} {a : Nat} (h : K a = 9) : zat ct K N I R a = .inl (ct 1, N a, .inl (fun j => zI (I a j))) := by
  simp [zat, h]
theorem zat_g {ct : Nat → ClassId} {K N : Nat → Nat} {I : MI} {R : MR} {a : Nat} (h : K a = 10) : zat ct K N I R a = .inl (ct 2, N a, .inr (.inr (.inr (.inr (R a))))) := by
  simp [zat, h]
theorem zat_t {ct : Nat → ClassId} {K N : Nat → Nat} {I : MI} {R : MR} {a : Nat} (h : K a = 11) : zat ct K N I R a = .inl (ct 3, N a, .inr (.inr (.inr (.inr (R a))))) := by
  simp [zat, h]
theorem zat_cong {ct : Nat → ClassId} {K N K' N' : Nat → Nat} {I I' : MI} {R R' : MR} {a : Nat} (hK : K' a = K a) (hN : N' a = N a) (h1 : I' a = I a) (h2 : R' a = R a) : zat ct K' N' I' R' a = zat ct K N I R a := by
  simp only [zat, zfs, hK, hN, h1, h2]
theorem zfs_get {c k : Nat} {I : MI} {R : MR} {a : Nat} (hk : k < znf c) : (zfs c I R a)[k]? = some (zfv (zty c k) (I a k) (R a k)) := by
  simp [zfs, List.getElem?_map, List.getElem?_range hk]
theorem zfs_len {c : Nat} {I : MI} {R : MR} {a : Nat} : (zfs c I R a).length = znf c := by simp [zfs]
theorem zfs_set {c k : Nat} {I I' : MI} {R R' : MR} {a : Nat} (hk : k < znf c) {v : Value} (hv : zfv (zty c k) (I' a k) (R' a k) = v) (ho : ∀ j, j ≠ k → I' a j = I a j ∧ R' a j = R a j) : (zfs c I R a).set k v = zfs c I' R' a := by
  apply List.ext_getElem?
  intro j
  rw [List.getElem?_set]
  by_cases hj : k = j
  · subst hj
    rw [if_pos rfl, zfs_len, if_pos hk, zfs_get hk, hv]
  · rw [if_neg hj]
    by_cases hl : j < znf c
    · rw [zfs_get hl, zfs_get hl, (ho j (Ne.symm hj)).1, (ho j (Ne.symm hj)).2]
    · rw [List.getElem?_eq_none (by rw [zfs_len]; omega), List.getElem?_eq_none (by rw [zfs_len]; omega)]
theorem va_P1 {D : va_G} {cl : List vw_C} {q : Nat × va_E} {H : Heap} (h : va_at D cl q H) : va_P D cl [q] H := by
  intro k x hx
  match k with
  | 0 => cases hx; exact h
  | k + 1 => simp at hx
theorem Wh.upd {G : GG} {z : Nat} {K N : Nat → Nat} {I I' : MI} {R R' : MR} {H H1 : Heap} {a : Nat} (h : Wh G z K N I R H) (ha : G.2.2.size ≤ a) (hz : H1.size = H.size) (oq : ∀ q : Nat, q ≠ a → H1[q]? = H[q]?) (hat : va_at G.1 vwCl (a, zat G.2.1 K N I' R' a) H1) (hI : ∀ b, b ≠ a → I' b = I b ∧ R' b = R b) : Wh G z K N I' R' H1 := by
  refine ⟨by rw [hz]; exact h.1, h.2.1, fun q hq => by rw [oq q (by omega)]; exact h.2.2.1 q hq, fun b h1 h2 => ?_⟩
  by_cases hb : b = a
  · subst hb; exact hat
  · rw [zat_cong (K := K) (N := N) (I := I) (R := R) rfl rfl (hI b hb).1 (hI b hb).2]
    exact (h.2.2.2 b h1 h2).kept (oq b hb)
theorem Wh.push {G : GG} {z : Nat} {K N K' N' : Nat → Nat} {I I' : MI} {R R' : MR} {H H1 : Heap} (h : Wh G z K N I R H) (hz : H1.size = H.size + 1) (oq : ∀ q : Nat, q < H.size → H1[q]? = H[q]?) (hat : va_at G.1 vwCl (z, zat G.2.1 K' N' I' R' z) H1) (hI : ∀ b, b < z → K' b = K b ∧ N' b = N b ∧ I' b = I b ∧ R' b = R b) : Wh G (z + 1) K' N' I' R' H1 := by
  obtain ⟨e, h1, h2, h3⟩ := h
  refine ⟨by omega, by omega, fun q hq => by rw [oq q (by omega)]; exact h2 q hq, fun b g1 g2 => ?_⟩
  by_cases hb : b = z
  · subst hb; exact hat
  · obtain ⟨i1, i2, i3, i4⟩ := hI b (by omega)
    rw [zat_cong (K := K) (N := N) (I := I) (R := R) i1 i2 i3 i4]
    exact (h3 b g1 (by omega)).kept (oq b (by omega))
/-- a method's contract -/
def Con (l : Launch) (G : GG) (y : MethodName) (ws : List Cond) (rm : Room) (mc ms : Nat) (av : List Value) (z : Nat) (K N : Nat → Nat) (I : MI) (R : MR) (P : Option Value → Nat → (Nat → Nat) → (Nat → Nat) → MI → MR → Prop) : Prop :=
  Met l y ws rm (va_Pc av (fun U => Wv G U ∧ Wh G z K N I R U.heap)) (fun _ _ oc t => ∃ (r : Option Value) (z' : Nat) (K' N' : Nat → Nat) (I' : MI) (R' : MR), oc = .returned r ∧ P r z' K' N' I' R' ∧ Wh G z' K' N' I' R' t.heap) mc ms (fun q => G.2.2.size ≤ q)
/-- the same, of a method that makes nothing and whose end is known -/
abbrev Cod (l : Launch) (G : GG) (y : MethodName) (ws : List Cond) (rm : Room) (av : List Value) (z : Nat) (K N : Nat → Nat) (I : MI) (R : MR) (r0 : Option Value) (I0 : MI) (R0 : MR) : Prop :=
  Con l G y ws rm 0 0 av z K N I R (fun r z' K' N' I' R' => r = r0 ∧ z' = z ∧ K' = K ∧ N' = N ∧ I' = I0 ∧ R' = R0)
def zpush : Option Value → List Value → List Value
  | none, s => s
  | some v, s => v :: s
def zst : List Value → List Value → List Value
  | [], r => r
  | v :: a, r => zst a (v :: r)
theorem zst_eq : ∀ (a r : List Value), zst a r = a.reverse ++ r
  | [], _ => rfl
  | v :: a, r => by rw [zst, zst_eq a, List.reverse_cons, List.append_assoc]; rfl
theorem zpush_eq (r : Option Value) (s : List Value) : zpush r s = r.toList ++ s := by cases r <;> rfl
def lvg : List (Nat × Value) → Nat → Option Value
  | [], _ => none
  | (j, v) :: r, i => bif Nat.beq j i then some v else lvg r i
def lvs : List (Nat × Value) → Nat → Value → List (Nat × Value)
  | [], i, v => [(i, v)]
  | (j, u) :: r, i, v => bif Nat.beq j i then (i, v) :: r else (j, u) :: lvs r i v
/-- the places are apart, and no long ends at one of them -/
def lvo : List (Nat × Value) → Nat → Bool
  | [], _ => true
  | (j, u) :: r, i => (bif Nat.beq (j + 1) i then (match u with | .long _ => false | .double _ => false | _ => true) else true) && lvo r i
def lvd : List (Nat × Value) → Bool
  | [] => true
  | (j, _) :: r => (r.all (fun q => !(Nat.beq q.1 j))) && lvd r
theorem lvg_mem : ∀ (lv : List (Nat × Value)) (i : Nat) (v : Value), lvg lv i = some v → (i, v) ∈ lv
  | [], _, _, h => by cases h
  | (j, u) :: r, i, v, h => by
    unfold lvg at h
    cases hb : Nat.beq j i with
    | true =>
      rw [hb] at h
      have e := Nat.eq_of_beq_eq_true hb
      simp only [cond_true, Option.some.injEq] at h
      subst e; subst h
      exact List.mem_cons_self
    | false =>
      rw [hb] at h
      exact List.mem_cons_of_mem _ (lvg_mem r i v h)
theorem lvg_at {ls : Array Slot} {nL : Nat} {lv : List (Nat × Value)} {i : Nat} {v : Value} (h : lv_has ls nL lv) (hg : lvg lv i = some v) : ls[i]? = some (.val v) := h.2.2 (i, v) (lvg_mem lv i v hg)
theorem lvs_mem : ∀ (lv : List (Nat × Value)) (i : Nat) (v : Value) (q : Nat × Value), lvd lv = true → q ∈ lvs lv i v → q = (i, v) ∨ (q ∈ lv ∧ q.1 ≠ i)
  | [], i, v, q, _, h => by
    rcases List.mem_cons.mp h with h | h
    · exact Or.inl h
    · cases h
  | (j, u) :: r, i, v, q, hd, h => by
    unfold lvd at hd
    rw [Bool.and_eq_true] at hd
    unfold lvs at h
    cases hb : Nat.beq j i with
    | true =>
      rw [hb] at h
      have e := Nat.eq_of_beq_eq_true hb
      subst e
      rcases List.mem_cons.mp h with h | h
      · exact Or.inl h
      · refine Or.inr ⟨List.mem_cons_of_mem _ h, fun e => ?_⟩
        have h2 := List.all_eq_true.mp hd.1 q h
        rw [e] at h2
        simp at h2
    | false =>
      rw [hb] at h
      rcases List.mem_cons.mp h with h | h
      · subst h
        refine Or.inr ⟨List.mem_cons_self, fun e => ?_⟩
        have e : j = i := e
        rw [e, Nat.beq_refl] at hb
        cases hb
      · rcases lvs_mem r i v q hd.2 h with h | h
        · exact Or.inl h
        · exact Or.inr ⟨List.mem_cons_of_mem _ h.1, h.2⟩
theorem lvo_mem : ∀ (lv : List (Nat × Value)) (i : Nat) (q : Nat × Value), lvo lv i = true → q ∈ lv → q.1 + 1 = i → ¬ q.2.category = 2
  | [], _, _, _, h, _ => by cases h
  | (j, u) :: r, i, q, ho, h, e => by
    unfold lvo at ho
    rw [Bool.and_eq_true] at ho
    rcases List.mem_cons.mp h with h | h
    · subst h
      have e : j + 1 = i := e
      have ho1 := ho.1
      rw [e, Nat.beq_refl] at ho1
      cases u <;> simp_all [Value.category]
    · exact lvo_mem r i q ho.2 h e
theorem lvs_has {ls' : Array Slot} {nL : Nat} {lv : List (Nat × Value)} {i : Nat} {v : Value} (hd : lvd lv = true) (ho : lvo lv i = true) (h : lv_has ls' nL ((i, v) :: lv.filter (fun q => !(q.1 == i) && !(q.1 + 1 == i && q.2.category == 2)))) : lv_has ls' nL (lvs lv i v) := by
  refine ⟨h.1, h.2.1, fun q hq => h.2.2 q ?_⟩
  rcases lvs_mem lv i v q hd hq with e | ⟨h1, h2⟩
  · rw [e]; exact List.mem_cons_self
  · refine List.mem_cons_of_mem _ (List.mem_filter.mpr ⟨h1, ?_⟩)
    have h3 : (q.1 == i) = false := by simpa using h2
    rw [h3]
    by_cases h4 : q.1 + 1 = i
    · have h5 := lvo_mem lv i q ho h1 h4
      simp [h5]
    · simp [h4]

def Cx (p : Program) (l : Launch) (e : Env) (Rm : Room) (s : State) (m : MethodId) (args : Array Value) (below : List Frame) (meth : Method) (c : Code) (G : GG) (cc : ByteArray) (nL : Nat) (own : String) (ret : Option FieldType) : Prop :=
  p.tables.exec = Jvm.exec ∧ c.code = cc ∧ c.maxLocals = nL ∧ s.vm.findClass own = some m.cls ∧ (∀ w ∈ wsL_law, w.before args s = true) ∧ meth.locks = false ∧ meth.sig.returnType = ret ∧ Wv G s ∧ nL < 2 ^ 16
def Zq (p : Program) (l : Launch) (e : Env) (Rm : Room) (s : State) (m : MethodId) (args : Array Value) (below : List Frame) (meth : Method) (c : Code) (G : GG) (nL : Nat) (Q : State → Prop) (cells slots z : Nat) (K N : Nat → Nat) (I : MI) (R : MR) (pc : Nat) (lv : List (Nat × Value)) (st : List Value) : Prop :=
  ∀ (H : Heap) (locs : List Loc) (ls : Array Slot), Wh G z K N I R H → (∀ q ∈ locs, G.2.2.size ≤ q.base) → lv_has ls nL lv → lvd lv = true → W p l e Rm s m args below meth c H locs cells slots Q (F0 m pc ls st)
section ZR
variable {p : Program} {l : Launch} {e : Env} {Rm : Room} {s : State} {m : MethodId} {args : Array Value} {below : List Frame} {meth : Method} {c : Code} {G : GG} {cc : ByteArray} {nL : Nat} {own : String} {ret : Option FieldType}
variable {Q : State → Prop} {cells slots z : Nat} {K N : Nat → Nat} {I : MI} {R : MR} {pc : Nat} {lv : List (Nat × Value)} {st : List Value}

theorem z_iconst (C : Cx p l e Rm s m args below meth c G cc nL own ret) {n : Int} (d : decode cc pc = .ok (.iconst n, 1))
    (k : Zq p l e Rm s m args below meth c G nL Q cells slots z K N I R (pc + 1) lv (.int (zI n) :: st)) : Zq p l e Rm s m args below meth c G nL Q cells slots z K N I R pc lv st :=
  fun H locs ls hW hL hl hd => lv_iconst C.1 C.2.1 d rfl (k H locs ls hW hL hl hd)
theorem zI_8 : ∀ n : Fin 256, (Int8.ofInt ((n.val : Int) - 128)).toInt32 = zI ((n.val : Int) - 128) := by decide +kernel
theorem zI_i8 {n : Int} (h : -128 ≤ n ∧ n < 128) : (Int8.ofInt n).toInt32 = zI n := by
  have h1 := zI_8 ⟨(n + 128).toNat, by omega⟩
  simp only at h1
  rwa [show (((n + 128).toNat : Nat) : Int) - 128 = n by omega] at h1
theorem zI_i16 {n : Int} (h : -32768 ≤ n ∧ n < 32768) : (Int16.ofInt n).toInt32 = zI n := by
  apply Int32.toInt_inj.mp
  rw [zI_int ⟨by omega, by omega⟩, Int16.toInt_toInt32]
  exact Int16.toInt_ofInt_of_le (by simpa using h.1) (by simpa using h.2)
theorem z_bipush (C : Cx p l e Rm s m args below meth c G cc nL own ret) {n : Int} (d : decode cc pc = .ok (.bipush n, 2)) (hn : -128 ≤ n ∧ n < 128)
    (k : Zq p l e Rm s m args below meth c G nL Q cells slots z K N I R (pc + 2) lv (.int (zI n) :: st)) : Zq p l e Rm s m args below meth c G nL Q cells slots z K N I R pc lv st :=
  fun H locs ls hW hL hl hd => lv_bipush C.1 C.2.1 d (zI_i8 hn) (k H locs ls hW hL hl hd)
theorem z_sipush (C : Cx p l e Rm s m args below meth c G cc nL own ret) {n : Int} (d : decode cc pc = .ok (.sipush n, 3)) (hn : -32768 ≤ n ∧ n < 32768)
    (k : Zq p l e Rm s m args below meth c G nL Q cells slots z K N I R (pc + 3) lv (.int (zI n) :: st)) : Zq p l e Rm s m args below meth c G nL Q cells slots z K N I R pc lv st :=
  fun H locs ls hW hL hl hd => lv_sipush C.1 C.2.1 d (zI_i16 hn) (k H locs ls hW hL hl hd)
theorem z_ldc (C : Cx p l e Rm s m args below meth c G cc nL own ret) {i : Nat} {n : Int} (d : decode cc pc = .ok (.ldc i, 2)) (hw : Cond.constant own i (zI n) ∈ wsL_law)
    (k : Zq p l e Rm s m args below meth c G nL Q cells slots z K N I R (pc + 2) lv (.int (zI n) :: st)) : Zq p l e Rm s m args below meth c G nL Q cells slots z K N I R pc lv st :=
  fun H locs ls hW hL hl hd => lv_ldc C.1 C.2.1 C.2.2.2.1 (C.2.2.2.2.1 _ hw) d (k H locs ls hW hL hl hd)
theorem z_iload_n (C : Cx p l e Rm s m args below meth c G cc nL own ret) {j : Fin 4} {x : Int32} (d : decode cc pc = .ok (.iload_n j, 1)) (h : lvg lv j = some (.int x))
    (k : Zq p l e Rm s m args below meth c G nL Q cells slots z K N I R (pc + 1) lv (.int x :: st)) : Zq p l e Rm s m args below meth c G nL Q cells slots z K N I R pc lv st :=
  fun H locs ls hW hL hl hd => lv_iload_n C.1 C.2.1 d rfl (lvg_at hl h) (k H locs ls hW hL hl hd)
theorem z_iload (C : Cx p l e Rm s m args below meth c G cc nL own ret) {j : Nat} {x : Int32} (d : decode cc pc = .ok (.iload j, 2)) (h : lvg lv j = some (.int x))
    (k : Zq p l e Rm s m args below meth c G nL Q cells slots z K N I R (pc + 2) lv (.int x :: st)) : Zq p l e Rm s m args below meth c G nL Q cells slots z K N I R pc lv st :=
  fun H locs ls hW hL hl hd => lv_iload C.1 C.2.1 d (lvg_at hl h) (k H locs ls hW hL hl hd)
theorem z_lload_n (C : Cx p l e Rm s m args below meth c G cc nL own ret) {j : Fin 4} {x : Int64} (d : decode cc pc = .ok (.lload_n j, 1)) (h : lvg lv j = some (.long x))
    (k : Zq p l e Rm s m args below meth c G nL Q cells slots z K N I R (pc + 1) lv (.long x :: st)) : Zq p l e Rm s m args below meth c G nL Q cells slots z K N I R pc lv st :=
  fun H locs ls hW hL hl hd => lv_lload_n C.1 C.2.1 d rfl (lvg_at hl h) (k H locs ls hW hL hl hd)
theorem z_lload (C : Cx p l e Rm s m args below meth c G cc nL own ret) {j : Nat} {x : Int64} (d : decode cc pc = .ok (.lload j, 2)) (h : lvg lv j = some (.long x))
    (k : Zq p l e Rm s m args below meth c G nL Q cells slots z K N I R (pc + 2) lv (.long x :: st)) : Zq p l e Rm s m args below meth c G nL Q cells slots z K N I R pc lv st :=
  fun H locs ls hW hL hl hd => lv_lload C.1 C.2.1 d (lvg_at hl h) (k H locs ls hW hL hl hd)
theorem z_aload_n (C : Cx p l e Rm s m args below meth c G cc nL own ret) {j : Fin 4} {x : Nat} (d : decode cc pc = .ok (.aload_n j, 1)) (h : lvg lv j = some (.ref x))
    (k : Zq p l e Rm s m args below meth c G nL Q cells slots z K N I R (pc + 1) lv (.ref x :: st)) : Zq p l e Rm s m args below meth c G nL Q cells slots z K N I R pc lv st :=
  fun H locs ls hW hL hl hd => lv_aload_n C.1 C.2.1 d rfl (lvg_at hl h) (k H locs ls hW hL hl hd)
theorem z_aload (C : Cx p l e Rm s m args below meth c G cc nL own ret) {j : Nat} {x : Nat} (d : decode cc pc = .ok (.aload j, 2)) (h : lvg lv j = some (.ref x))
    (k : Zq p l e Rm s m args below meth c G nL Q cells slots z K N I R (pc + 2) lv (.ref x :: st)) : Zq p l e Rm s m args below meth c G nL Q cells slots z K N I R pc lv st :=
  fun H locs ls hW hL hl hd => lv_aload C.1 C.2.1 d (lvg_at hl h) (k H locs ls hW hL hl hd)
theorem lvs_d : ∀ (lv : List (Nat × Value)) (i : Nat) (v : Value), lvd lv = true → lvd (lvs lv i v) = true
  | [], _, _, _ => rfl
  | (j, u) :: r, i, v, h => by
    unfold lvd at h
    rw [Bool.and_eq_true] at h
    unfold lvs
    cases hb : Nat.beq j i with
    | true =>
      have e := Nat.eq_of_beq_eq_true hb
      subst e
      show lvd ((j, v) :: r) = true
      unfold lvd
      rw [Bool.and_eq_true]
      exact h
    | false =>
      show lvd ((j, u) :: lvs r i v) = true
      unfold lvd
      rw [Bool.and_eq_true]
      refine ⟨List.all_eq_true.mpr fun q hq => ?_, lvs_d r i v h.2⟩
      rcases lvs_mem r i v q h.2 hq with e | ⟨h1, -⟩
      · rw [e]
        show (!(Nat.beq i j)) = true
        cases hc : Nat.beq i j with
        | true =>
          have e2 := Nat.eq_of_beq_eq_true hc
          rw [e2, Nat.beq_refl] at hb
          cases hb
        | false => rfl
      · exact List.all_eq_true.mp h.1 q h1
theorem z_istore_n (C : Cx p l e Rm s m args below meth c G cc nL own ret) {j : Fin 4} {x : Int32} (d : decode cc pc = .ok (.istore_n j, 1)) (hn : (j : Nat) < nL) (ho : lvo lv j = true)
    (k : Zq p l e Rm s m args below meth c G nL Q cells slots z K N I R (pc + 1) (lvs lv j (.int x)) st) : Zq p l e Rm s m args below meth c G nL Q cells slots z K N I R pc lv (.int x :: st) :=
  fun H locs ls hW hL hl hd => lv_istore_n C.1 C.2.1 d rfl hl hn rfl (fun ls1 h1 => k H locs ls1 hW hL (lvs_has hd ho h1) (lvs_d _ _ _ hd))
theorem z_istore (C : Cx p l e Rm s m args below meth c G cc nL own ret) {j : Nat} {x : Int32} (d : decode cc pc = .ok (.istore j, 2)) (hn : j < nL) (ho : lvo lv j = true)
    (k : Zq p l e Rm s m args below meth c G nL Q cells slots z K N I R (pc + 2) (lvs lv j (.int x)) st) : Zq p l e Rm s m args below meth c G nL Q cells slots z K N I R pc lv (.int x :: st) :=
  fun H locs ls hW hL hl hd => lv_istore C.1 C.2.1 d hl hn rfl (fun ls1 h1 => k H locs ls1 hW hL (lvs_has hd ho h1) (lvs_d _ _ _ hd))
theorem z_astore_n (C : Cx p l e Rm s m args below meth c G cc nL own ret) {j : Fin 4} {x : Nat} (d : decode cc pc = .ok (.astore_n j, 1)) (hn : (j : Nat) < nL) (ho : lvo lv j = true)
    (k : Zq p l e Rm s m args below meth c G nL Q cells slots z K N I R (pc + 1) (lvs lv j (.ref x)) st) : Zq p l e Rm s m args below meth c G nL Q cells slots z K N I R pc lv (.ref x :: st) :=
  fun H locs ls hW hL hl hd => lv_astore_n C.1 C.2.1 d rfl hl hn rfl (fun ls1 h1 => k H locs ls1 hW hL (lvs_has hd ho h1) (lvs_d _ _ _ hd))
theorem z_astore (C : Cx p l e Rm s m args below meth c G cc nL own ret) {j : Nat} {x : Nat} (d : decode cc pc = .ok (.astore j, 2)) (hn : j < nL) (ho : lvo lv j = true)
    (k : Zq p l e Rm s m args below meth c G nL Q cells slots z K N I R (pc + 2) (lvs lv j (.ref x)) st) : Zq p l e Rm s m args below meth c G nL Q cells slots z K N I R pc lv (.ref x :: st) :=
  fun H locs ls hW hL hl hd => lv_astore C.1 C.2.1 d hl hn rfl (fun ls1 h1 => k H locs ls1 hW hL (lvs_has hd ho h1) (lvs_d _ _ _ hd))
theorem lvg_pos : ∀ (lv : List (Nat × Value)) (i : Nat) (v : Value), lvg lv i = some v → ∃ k : Nat, lv[k]? = some (i, v) := fun lv i v h => by
  obtain ⟨k, hk⟩ := List.getElem?_of_mem (lvg_mem lv i v h)
  exact ⟨k, hk⟩
theorem z_iinc (C : Cx p l e Rm s m args below meth c G cc nL own ret) {j : Nat} {n x : Int} (d : decode cc pc = .ok (.iinc j n, 3)) (h : lvg lv j = some (.int (zI x))) (hn : j < nL) (ho : lvo lv j = true)
    (k : Zq p l e Rm s m args below meth c G nL Q cells slots z K N I R (pc + 3) (lvs lv j (.int (zI (x + n)))) st) : Zq p l e Rm s m args below meth c G nL Q cells slots z K N I R pc lv st := fun H locs ls hW hL hl hd => by
  obtain ⟨q, hq⟩ := lvg_pos lv j _ h
  exact lv_iinc (v := zI (x + n)) C.1 C.2.1 d hl hq (zI_add x n) hn rfl (fun ls1 h1 => k H locs ls1 hW hL (lvs_has hd ho h1) (lvs_d _ _ _ hd))
theorem z_iadd (C : Cx p l e Rm s m args below meth c G cc nL own ret) {a b : Int} (d : decode cc pc = .ok (.iadd, 1)) (k : Zq p l e Rm s m args below meth c G nL Q cells slots z K N I R (pc + 1) lv (.int (zI (a + b)) :: st)) : Zq p l e Rm s m args below meth c G nL Q cells slots z K N I R pc lv (.int (zI b) :: .int (zI a) :: st) := fun H locs ls hW hL hl hd =>
  lv_iadd C.1 C.2.1 d (by rw [zI_add]; exact k H locs ls hW hL hl hd)
theorem z_isub (C : Cx p l e Rm s m args below meth c G cc nL own ret) {a b : Int} (d : decode cc pc = .ok (.isub, 1)) (k : Zq p l e Rm s m args below meth c G nL Q cells slots z K N I R (pc + 1) lv (.int (zI (a - b)) :: st)) : Zq p l e Rm s m args below meth c G nL Q cells slots z K N I R pc lv (.int (zI b) :: .int (zI a) :: st) := fun H locs ls hW hL hl hd =>
  lv_isub C.1 C.2.1 d (by rw [zI_sub]; exact k H locs ls hW hL hl hd)
theorem z_imul (C : Cx p l e Rm s m args below meth c G cc nL own ret) {a b : Int} (d : decode cc pc = .ok (.imul, 1)) (k : Zq p l e Rm s m args below meth c G nL Q cells slots z K N I R (pc + 1) lv (.int (zI (a * b)) :: st)) : Zq p l e Rm s m args below meth c G nL Q cells slots z K N I R pc lv (.int (zI b) :: .int (zI a) :: st) := fun H locs ls hW hL hl hd =>
  lv_imul C.1 C.2.1 d (by rw [zI_mul]; exact k H locs ls hW hL hl hd)
theorem z_ineg (C : Cx p l e Rm s m args below meth c G cc nL own ret) {a : Int} (d : decode cc pc = .ok (.ineg, 1)) (k : Zq p l e Rm s m args below meth c G nL Q cells slots z K N I R (pc + 1) lv (.int (zI (-a)) :: st)) : Zq p l e Rm s m args below meth c G nL Q cells slots z K N I R pc lv (.int (zI a) :: st) := fun H locs ls hW hL hl hd =>
  lv_ineg C.1 C.2.1 d (by rw [zI_neg]; exact k H locs ls hW hL hl hd)
theorem z_idiv (C : Cx p l e Rm s m args below meth c G cc nL own ret) {a b : Int} (d : decode cc pc = .ok (.idiv, 1)) (ha : 0 ≤ a ∧ a < 2147483648) (hb : 0 < b ∧ b < 2147483648) (k : Zq p l e Rm s m args below meth c G nL Q cells slots z K N I R (pc + 1) lv (.int (zI (a / b)) :: st)) : Zq p l e Rm s m args below meth c G nL Q cells slots z K N I R pc lv (.int (zI b) :: .int (zI a) :: st) := fun H locs ls hW hL hl hd =>
  lv_idiv C.1 C.2.1 d (by rw [zI_0, zI_eq ⟨by omega, hb.2⟩ ⟨by omega, by omega⟩]; omega) (by rw [zI_div ha hb]; exact k H locs ls hW hL hl hd)
theorem z_irem (C : Cx p l e Rm s m args below meth c G cc nL own ret) {a b : Int} (d : decode cc pc = .ok (.irem, 1)) (ha : 0 ≤ a ∧ a < 2147483648) (hb : 0 < b ∧ b < 2147483648) (k : Zq p l e Rm s m args below meth c G nL Q cells slots z K N I R (pc + 1) lv (.int (zI (a % b)) :: st)) : Zq p l e Rm s m args below meth c G nL Q cells slots z K N I R pc lv (.int (zI b) :: .int (zI a) :: st) := fun H locs ls hW hL hl hd =>
  lv_irem C.1 C.2.1 d (by rw [zI_0, zI_eq ⟨by omega, hb.2⟩ ⟨by omega, by omega⟩]; omega) (by rw [zI_rem ha hb]; exact k H locs ls hW hL hl hd)
theorem z_iand (C : Cx p l e Rm s m args below meth c G cc nL own ret) {x y v : Int32} (d : decode cc pc = .ok (.iand, 1)) (hv : x &&& y = v) (k : Zq p l e Rm s m args below meth c G nL Q cells slots z K N I R (pc + 1) lv (.int v :: st)) : Zq p l e Rm s m args below meth c G nL Q cells slots z K N I R pc lv (.int y :: .int x :: st) := fun H locs ls hW hL hl hd =>
  lv_iand C.1 C.2.1 d (by rw [hv]; exact k H locs ls hW hL hl hd)
theorem z_ior (C : Cx p l e Rm s m args below meth c G cc nL own ret) {x y v : Int32} (d : decode cc pc = .ok (.ior, 1)) (hv : x ||| y = v) (k : Zq p l e Rm s m args below meth c G nL Q cells slots z K N I R (pc + 1) lv (.int v :: st)) : Zq p l e Rm s m args below meth c G nL Q cells slots z K N I R pc lv (.int y :: .int x :: st) := fun H locs ls hW hL hl hd =>
  lv_ior C.1 C.2.1 d (by rw [hv]; exact k H locs ls hW hL hl hd)
theorem z_ixor (C : Cx p l e Rm s m args below meth c G cc nL own ret) {x y v : Int32} (d : decode cc pc = .ok (.ixor, 1)) (hv : x ^^^ y = v) (k : Zq p l e Rm s m args below meth c G nL Q cells slots z K N I R (pc + 1) lv (.int v :: st)) : Zq p l e Rm s m args below meth c G nL Q cells slots z K N I R pc lv (.int y :: .int x :: st) := fun H locs ls hW hL hl hd =>
  lv_ixor C.1 C.2.1 d (by rw [hv]; exact k H locs ls hW hL hl hd)
theorem z_ishl (C : Cx p l e Rm s m args below meth c G cc nL own ret) {x y v : Int32} (d : decode cc pc = .ok (.ishl, 1)) (hv : x <<< (y &&& 31) = v) (k : Zq p l e Rm s m args below meth c G nL Q cells slots z K N I R (pc + 1) lv (.int v :: st)) : Zq p l e Rm s m args below meth c G nL Q cells slots z K N I R pc lv (.int y :: .int x :: st) := fun H locs ls hW hL hl hd =>
  lv_ishl C.1 C.2.1 d (by rw [hv]; exact k H locs ls hW hL hl hd)
theorem z_ishr (C : Cx p l e Rm s m args below meth c G cc nL own ret) {x y v : Int32} (d : decode cc pc = .ok (.ishr, 1)) (hv : x >>> (y &&& 31) = v) (k : Zq p l e Rm s m args below meth c G nL Q cells slots z K N I R (pc + 1) lv (.int v :: st)) : Zq p l e Rm s m args below meth c G nL Q cells slots z K N I R pc lv (.int y :: .int x :: st) := fun H locs ls hW hL hl hd =>
  lv_ishr C.1 C.2.1 d (by rw [hv]; exact k H locs ls hW hL hl hd)
theorem z_iushr (C : Cx p l e Rm s m args below meth c G cc nL own ret) {x y v : Int32} (d : decode cc pc = .ok (.iushr, 1)) (hv : (x.toUInt32 >>> (y.toUInt32 &&& Int32.toUInt32 31)).toInt32 = v) (k : Zq p l e Rm s m args below meth c G nL Q cells slots z K N I R (pc + 1) lv (.int v :: st)) : Zq p l e Rm s m args below meth c G nL Q cells slots z K N I R pc lv (.int y :: .int x :: st) := fun H locs ls hW hL hl hd =>
  lv_iushr C.1 C.2.1 d hv (k H locs ls hW hL hl hd)
theorem z_top {x y : Value} (h : x = y) (k : Zq p l e Rm s m args below meth c G nL Q cells slots z K N I R pc lv (y :: st)) : Zq p l e Rm s m args below meth c G nL Q cells slots z K N I R pc lv (x :: st) := h ▸ k
theorem z_mem {I' : MI} {R' : MR} (h : I = I') (h2 : R = R') (k : Zq p l e Rm s m args below meth c G nL Q cells slots z K N I' R' pc lv st) : Zq p l e Rm s m args below meth c G nL Q cells slots z K N I R pc lv st := h ▸ h2 ▸ k
theorem z_dup (C : Cx p l e Rm s m args below meth c G cc nL own ret) {v : Value} (d : decode cc pc = .ok (.dup, 1)) (hv : v.category = 1)
    (k : Zq p l e Rm s m args below meth c G nL Q cells slots z K N I R (pc + 1) lv (v :: v :: st)) : Zq p l e Rm s m args below meth c G nL Q cells slots z K N I R pc lv (v :: st) :=
  fun H locs ls hW hL hl hd => lv_dup C.1 C.2.1 d hv (k H locs ls hW hL hl hd)
theorem z_pop (C : Cx p l e Rm s m args below meth c G cc nL own ret) {v : Value} (d : decode cc pc = .ok (.pop, 1)) (hv : v.category = 1)
    (k : Zq p l e Rm s m args below meth c G nL Q cells slots z K N I R (pc + 1) lv st) : Zq p l e Rm s m args below meth c G nL Q cells slots z K N I R pc lv (v :: st) :=
  fun H locs ls hW hL hl hd => lv_pop C.1 C.2.1 d hv (k H locs ls hW hL hl hd)
theorem z_dup2 (C : Cx p l e Rm s m args below meth c G cc nL own ret) {u v : Value} (d : decode cc pc = .ok (.dup2, 1)) (hu : u.category = 1) (hv : v.category = 1)
    (k : Zq p l e Rm s m args below meth c G nL Q cells slots z K N I R (pc + 1) lv (u :: v :: u :: v :: st)) : Zq p l e Rm s m args below meth c G nL Q cells slots z K N I R pc lv (u :: v :: st) :=
  fun H locs ls hW hL hl hd => lv_dup2_11 C.1 C.2.1 d hu hv (k H locs ls hW hL hl hd)
theorem z_dup_x1 (C : Cx p l e Rm s m args below meth c G cc nL own ret) {u v : Value} (d : decode cc pc = .ok (.dup_x1, 1)) (hu : u.category = 1) (hv : v.category = 1)
    (k : Zq p l e Rm s m args below meth c G nL Q cells slots z K N I R (pc + 1) lv (u :: v :: u :: st)) : Zq p l e Rm s m args below meth c G nL Q cells slots z K N I R pc lv (u :: v :: st) :=
  fun H locs ls hW hL hl hd => lv_dup_x1 C.1 C.2.1 d hu hv (k H locs ls hW hL hl hd)
theorem z_dup_x2 (C : Cx p l e Rm s m args below meth c G cc nL own ret) {u v v2 : Value} (d : decode cc pc = .ok (.dup_x2, 1)) (hu : u.category = 1) (hv : v.category = 1) (hv2 : v2.category = 1)
    (k : Zq p l e Rm s m args below meth c G nL Q cells slots z K N I R (pc + 1) lv (u :: v :: v2 :: u :: st)) : Zq p l e Rm s m args below meth c G nL Q cells slots z K N I R pc lv (u :: v :: v2 :: st) :=
  fun H locs ls hW hL hl hd => lv_dup_x2 C.1 C.2.1 d hu hv hv2 (k H locs ls hW hL hl hd)
theorem z_null (C : Cx p l e Rm s m args below meth c G cc nL own ret) (d : decode cc pc = .ok (.aconst_null, 1))
    (k : Zq p l e Rm s m args below meth c G nL Q cells slots z K N I R (pc + 1) lv (.null :: st)) : Zq p l e Rm s m args below meth c G nL Q cells slots z K N I R pc lv st :=
  fun H locs ls hW hL hl hd => lv_null C.1 C.2.1 d (k H locs ls hW hL hl hd)
theorem z_goto (C : Cx p l e Rm s m args below meth c G cc nL own ret) {off : Int} {tgt : Nat} (d : decode cc pc = .ok (.goto off, 3)) (ht : (pc : Int) + off = (tgt : Int))
    (k : Zq p l e Rm s m args below meth c G nL Q cells slots z K N I R tgt lv st) : Zq p l e Rm s m args below meth c G nL Q cells slots z K N I R pc lv st :=
  fun H locs ls hW hL hl hd => lv_goto C.1 C.2.1 d ht (k H locs ls hW hL hl hd)
theorem z_icmp_eq (C : Cx p l e Rm s m args below meth c G cc nL own ret) {a b off : Int} {tgt : Nat} (d : decode cc pc = .ok (.if_icmp .eq off, 3)) (ht : (pc : Int) + off = (tgt : Int)) (ha : -2147483648 ≤ a ∧ a < 2147483648) (hb : -2147483648 ≤ b ∧ b < 2147483648)
    (kt : a = b → Zq p l e Rm s m args below meth c G nL Q cells slots z K N I R tgt lv st) (kf : ¬ a = b → Zq p l e Rm s m args below meth c G nL Q cells slots z K N I R (pc + 3) lv st) : Zq p l e Rm s m args below meth c G nL Q cells slots z K N I R pc lv (.int (zI b) :: .int (zI a) :: st) := fun H locs ls hW hL hl hd =>
  lv_icmp_eq C.1 C.2.1 d ht (fun q => kt ((zI_eq ha hb).mp q) H locs ls hW hL hl hd) (fun q => kf (fun z => q ((zI_eq ha hb).mpr z)) H locs ls hW hL hl hd)
theorem z_if_eq (C : Cx p l e Rm s m args below meth c G cc nL own ret) {a off : Int} {tgt : Nat} (d : decode cc pc = .ok (.ifCond .eq off, 3)) (ht : (pc : Int) + off = (tgt : Int)) (ha : -2147483648 ≤ a ∧ a < 2147483648)
    (kt : a = 0 → Zq p l e Rm s m args below meth c G nL Q cells slots z K N I R tgt lv st) (kf : ¬ a = 0 → Zq p l e Rm s m args below meth c G nL Q cells slots z K N I R (pc + 3) lv st) : Zq p l e Rm s m args below meth c G nL Q cells slots z K N I R pc lv (.int (zI a) :: st) := fun H locs ls hW hL hl hd => by
  have hb : -2147483648 ≤ (0 : Int) ∧ (0 : Int) < 2147483648 := ⟨by omega, by omega⟩
  exact lv_if_eq C.1 C.2.1 d ht (fun q => kt ((zI_eq ha hb).mp (zI_0 ▸ q)) H locs ls hW hL hl hd) (fun q => kf (fun z => q (zI_0 ▸ (zI_eq ha hb).mpr z)) H locs ls hW hL hl hd)
theorem z_icmp_ne (C : Cx p l e Rm s m args below meth c G cc nL own ret) {a b off : Int} {tgt : Nat} (d : decode cc pc = .ok (.if_icmp .ne off, 3)) (ht : (pc : Int) + off = (tgt : Int)) (ha : -2147483648 ≤ a ∧ a < 2147483648) (hb : -2147483648 ≤ b ∧ b < 2147483648)
    (kt : ¬ a = b → Zq p l e Rm s m args below meth c G nL Q cells slots z K N I R tgt lv st) (kf : a = b → Zq p l e Rm s m args below meth c G nL Q cells slots z K N I R (pc + 3) lv st) : Zq p l e Rm s m args below meth c G nL Q cells slots z K N I R pc lv (.int (zI b) :: .int (zI a) :: st) := fun H locs ls hW hL hl hd =>
  lv_icmp_ne C.1 C.2.1 d ht (fun q => kt (fun z => q ((zI_eq ha hb).mpr z)) H locs ls hW hL hl hd) (fun q => kf ((zI_eq ha hb).mp q) H locs ls hW hL hl hd)
theorem z_if_ne (C : Cx p l e Rm s m args below meth c G cc nL own ret) {a off : Int} {tgt : Nat} (d : decode cc pc = .ok (.ifCond .ne off, 3)) (ht : (pc : Int) + off = (tgt : Int)) (ha : -2147483648 ≤ a ∧ a < 2147483648)
    (kt : ¬ a = 0 → Zq p l e Rm s m args below meth c G nL Q cells slots z K N I R tgt lv st) (kf : a = 0 → Zq p l e Rm s m args below meth c G nL Q cells slots z K N I R (pc + 3) lv st) : Zq p l e Rm s m args below meth c G nL Q cells slots z K N I R pc lv (.int (zI a) :: st) := fun H locs ls hW hL hl hd => by
  have hb : -2147483648 ≤ (0 : Int) ∧ (0 : Int) < 2147483648 := ⟨by omega, by omega⟩
  exact lv_if_ne C.1 C.2.1 d ht (fun q => kt (fun z => q (zI_0 ▸ (zI_eq ha hb).mpr z)) H locs ls hW hL hl hd) (fun q => kf ((zI_eq ha hb).mp (zI_0 ▸ q)) H locs ls hW hL hl hd)
theorem z_icmp_lt (C : Cx p l e Rm s m args below meth c G cc nL own ret) {a b off : Int} {tgt : Nat} (d : decode cc pc = .ok (.if_icmp .lt off, 3)) (ht : (pc : Int) + off = (tgt : Int)) (ha : -2147483648 ≤ a ∧ a < 2147483648) (hb : -2147483648 ≤ b ∧ b < 2147483648)
    (kt : a < b → Zq p l e Rm s m args below meth c G nL Q cells slots z K N I R tgt lv st) (kf : ¬ a < b → Zq p l e Rm s m args below meth c G nL Q cells slots z K N I R (pc + 3) lv st) : Zq p l e Rm s m args below meth c G nL Q cells slots z K N I R pc lv (.int (zI b) :: .int (zI a) :: st) := fun H locs ls hW hL hl hd =>
  lv_icmp_lt C.1 C.2.1 d ht (fun q => kt ((zI_lt ha hb).mp q) H locs ls hW hL hl hd) (fun q => kf (fun z => q ((zI_lt ha hb).mpr z)) H locs ls hW hL hl hd)
theorem z_if_lt (C : Cx p l e Rm s m args below meth c G cc nL own ret) {a off : Int} {tgt : Nat} (d : decode cc pc = .ok (.ifCond .lt off, 3)) (ht : (pc : Int) + off = (tgt : Int)) (ha : -2147483648 ≤ a ∧ a < 2147483648)
    (kt : a < 0 → Zq p l e Rm s m args below meth c G nL Q cells slots z K N I R tgt lv st) (kf : ¬ a < 0 → Zq p l e Rm s m args below meth c G nL Q cells slots z K N I R (pc + 3) lv st) : Zq p l e Rm s m args below meth c G nL Q cells slots z K N I R pc lv (.int (zI a) :: st) := fun H locs ls hW hL hl hd => by
  have hb : -2147483648 ≤ (0 : Int) ∧ (0 : Int) < 2147483648 := ⟨by omega, by omega⟩
  exact lv_if_lt C.1 C.2.1 d ht (fun q => kt ((zI_lt ha hb).mp (zI_0 ▸ q)) H locs ls hW hL hl hd) (fun q => kf (fun z => q (zI_0 ▸ (zI_lt ha hb).mpr z)) H locs ls hW hL hl hd)
theorem z_icmp_ge (C : Cx p l e Rm s m args below meth c G cc nL own ret) {a b off : Int} {tgt : Nat} (d : decode cc pc = .ok (.if_icmp .ge off, 3)) (ht : (pc : Int) + off = (tgt : Int)) (ha : -2147483648 ≤ a ∧ a < 2147483648) (hb : -2147483648 ≤ b ∧ b < 2147483648)
    (kt : b ≤ a → Zq p l e Rm s m args below meth c G nL Q cells slots z K N I R tgt lv st) (kf : ¬ b ≤ a → Zq p l e Rm s m args below meth c G nL Q cells slots z K N I R (pc + 3) lv st) : Zq p l e Rm s m args below meth c G nL Q cells slots z K N I R pc lv (.int (zI b) :: .int (zI a) :: st) := fun H locs ls hW hL hl hd =>
  lv_icmp_ge C.1 C.2.1 d ht (fun q => kt ((zI_le hb ha).mp q) H locs ls hW hL hl hd) (fun q => kf (fun z => q ((zI_le hb ha).mpr z)) H locs ls hW hL hl hd)
theorem z_if_ge (C : Cx p l e Rm s m args below meth c G cc nL own ret) {a off : Int} {tgt : Nat} (d : decode cc pc = .ok (.ifCond .ge off, 3)) (ht : (pc : Int) + off = (tgt : Int)) (ha : -2147483648 ≤ a ∧ a < 2147483648)
    (kt : 0 ≤ a → Zq p l e Rm s m args below meth c G nL Q cells slots z K N I R tgt lv st) (kf : ¬ 0 ≤ a → Zq p l e Rm s m args below meth c G nL Q cells slots z K N I R (pc + 3) lv st) : Zq p l e Rm s m args below meth c G nL Q cells slots z K N I R pc lv (.int (zI a) :: st) := fun H locs ls hW hL hl hd => by
  have hb : -2147483648 ≤ (0 : Int) ∧ (0 : Int) < 2147483648 := ⟨by omega, by omega⟩
  exact lv_if_ge C.1 C.2.1 d ht (fun q => kt ((zI_le hb ha).mp (zI_0 ▸ q)) H locs ls hW hL hl hd) (fun q => kf (fun z => q (zI_0 ▸ (zI_le hb ha).mpr z)) H locs ls hW hL hl hd)
theorem z_icmp_gt (C : Cx p l e Rm s m args below meth c G cc nL own ret) {a b off : Int} {tgt : Nat} (d : decode cc pc = .ok (.if_icmp .gt off, 3)) (ht : (pc : Int) + off = (tgt : Int)) (ha : -2147483648 ≤ a ∧ a < 2147483648) (hb : -2147483648 ≤ b ∧ b < 2147483648)
    (kt : b < a → Zq p l e Rm s m args below meth c G nL Q cells slots z K N I R tgt lv st) (kf : ¬ b < a → Zq p l e Rm s m args below meth c G nL Q cells slots z K N I R (pc + 3) lv st) : Zq p l e Rm s m args below meth c G nL Q cells slots z K N I R pc lv (.int (zI b) :: .int (zI a) :: st) := fun H locs ls hW hL hl hd =>
  lv_icmp_gt C.1 C.2.1 d ht (fun q => kt ((zI_lt hb ha).mp q) H locs ls hW hL hl hd) (fun q => kf (fun z => q ((zI_lt hb ha).mpr z)) H locs ls hW hL hl hd)
theorem z_if_gt (C : Cx p l e Rm s m args below meth c G cc nL own ret) {a off : Int} {tgt : Nat} (d : decode cc pc = .ok (.ifCond .gt off, 3)) (ht : (pc : Int) + off = (tgt : Int)) (ha : -2147483648 ≤ a ∧ a < 2147483648)
    (kt : 0 < a → Zq p l e Rm s m args below meth c G nL Q cells slots z K N I R tgt lv st) (kf : ¬ 0 < a → Zq p l e Rm s m args below meth c G nL Q cells slots z K N I R (pc + 3) lv st) : Zq p l e Rm s m args below meth c G nL Q cells slots z K N I R pc lv (.int (zI a) :: st) := fun H locs ls hW hL hl hd => by
  have hb : -2147483648 ≤ (0 : Int) ∧ (0 : Int) < 2147483648 := ⟨by omega, by omega⟩
  exact lv_if_gt C.1 C.2.1 d ht (fun q => kt ((zI_lt hb ha).mp (zI_0 ▸ q)) H locs ls hW hL hl hd) (fun q => kf (fun z => q (zI_0 ▸ (zI_lt hb ha).mpr z)) H locs ls hW hL hl hd)
theorem z_icmp_le (C : Cx p l e Rm s m args below meth c G cc nL own ret) {a b off : Int} {tgt : Nat} (d : decode cc pc = .ok (.if_icmp .le off, 3)) (ht : (pc : Int) + off = (tgt : Int)) (ha : -2147483648 ≤ a ∧ a < 2147483648) (hb : -2147483648 ≤ b ∧ b < 2147483648)
    (kt : a ≤ b → Zq p l e Rm s m args below meth c G nL Q cells slots z K N I R tgt lv st) (kf : ¬ a ≤ b → Zq p l e Rm s m args below meth c G nL Q cells slots z K N I R (pc + 3) lv st) : Zq p l e Rm s m args below meth c G nL Q cells slots z K N I R pc lv (.int (zI b) :: .int (zI a) :: st) := fun H locs ls hW hL hl hd =>
  lv_icmp_le C.1 C.2.1 d ht (fun q => kt ((zI_le ha hb).mp q) H locs ls hW hL hl hd) (fun q => kf (fun z => q ((zI_le ha hb).mpr z)) H locs ls hW hL hl hd)
theorem z_if_le (C : Cx p l e Rm s m args below meth c G cc nL own ret) {a off : Int} {tgt : Nat} (d : decode cc pc = .ok (.ifCond .le off, 3)) (ht : (pc : Int) + off = (tgt : Int)) (ha : -2147483648 ≤ a ∧ a < 2147483648)
    (kt : a ≤ 0 → Zq p l e Rm s m args below meth c G nL Q cells slots z K N I R tgt lv st) (kf : ¬ a ≤ 0 → Zq p l e Rm s m args below meth c G nL Q cells slots z K N I R (pc + 3) lv st) : Zq p l e Rm s m args below meth c G nL Q cells slots z K N I R pc lv (.int (zI a) :: st) := fun H locs ls hW hL hl hd => by
  have hb : -2147483648 ≤ (0 : Int) ∧ (0 : Int) < 2147483648 := ⟨by omega, by omega⟩
  exact lv_if_le C.1 C.2.1 d ht (fun q => kt ((zI_le ha hb).mp (zI_0 ▸ q)) H locs ls hW hL hl hd) (fun q => kf (fun z => q (zI_0 ▸ (zI_le ha hb).mpr z)) H locs ls hW hL hl hd)
theorem z_ifnull (C : Cx p l e Rm s m args below meth c G cc nL own ret) {r : Option Nat} {off : Int} {tgt : Nat} (d : decode cc pc = .ok (.ifnull off, 3)) (ht : (pc : Int) + off = (tgt : Int))
    (kt : r = none → Zq p l e Rm s m args below meth c G nL Q cells slots z K N I R tgt lv st) (kf : ∀ x, r = some x → Zq p l e Rm s m args below meth c G nL Q cells slots z K N I R (pc + 3) lv st) : Zq p l e Rm s m args below meth c G nL Q cells slots z K N I R pc lv (va_rf r :: st) := fun H locs ls hW hL hl hd => by
  cases hr : r with
  | none => exact lv_ifnullN C.1 C.2.1 d ht (kt hr H locs ls hW hL hl hd)
  | some x => exact lv_ifnull C.1 C.2.1 d (kf x hr H locs ls hW hL hl hd)
theorem z_ifnonnull (C : Cx p l e Rm s m args below meth c G cc nL own ret) {r : Option Nat} {off : Int} {tgt : Nat} (d : decode cc pc = .ok (.ifnonnull off, 3)) (ht : (pc : Int) + off = (tgt : Int))
    (kt : ∀ x, r = some x → Zq p l e Rm s m args below meth c G nL Q cells slots z K N I R tgt lv st) (kf : r = none → Zq p l e Rm s m args below meth c G nL Q cells slots z K N I R (pc + 3) lv st) : Zq p l e Rm s m args below meth c G nL Q cells slots z K N I R pc lv (va_rf r :: st) := fun H locs ls hW hL hl hd => by
  cases hr : r with
  | none => exact lv_ifnonnullN C.1 C.2.1 d (kf hr H locs ls hW hL hl hd)
  | some x => exact lv_ifnonnull C.1 C.2.1 d ht (kt x hr H locs ls hW hL hl hd)
theorem z_tout (C : Cx p l e Rm s m args below meth c G cc nL own ret) {dflt lo hi a : Int} {offs : Array Int} {len : Nat} {tgt : Nat} (d : decode cc pc = .ok (.tableswitch dflt lo hi offs, len)) (ha : -2147483648 ≤ a ∧ a < 2147483648) (h : a < lo ∨ hi < a) (ht : (pc : Int) + dflt = (tgt : Int))
    (k : Zq p l e Rm s m args below meth c G nL Q cells slots z K N I R tgt lv st) : Zq p l e Rm s m args below meth c G nL Q cells slots z K N I R pc lv (.int (zI a) :: st) := fun H locs ls hW hL hl hd =>
  lv_tableOut C.1 C.2.1 d (by rw [zI_int ha]; exact h) ht (k H locs ls hW hL hl hd)
theorem z_tin (C : Cx p l e Rm s m args below meth c G cc nL own ret) {dflt lo hi a : Int} {offs : Array Int} {len : Nat} {off : Int} {tgt : Nat} (v : Int) (d : decode cc pc = .ok (.tableswitch dflt lo hi offs, len)) (he : a = v) (hv : -2147483648 ≤ v ∧ v < 2147483648) (h1 : lo ≤ v) (h2 : v ≤ hi) (ho : offs[(v - lo).toNat]? = some off) (ht : (pc : Int) + off = (tgt : Int))
    (k : Zq p l e Rm s m args below meth c G nL Q cells slots z K N I R tgt lv st) : Zq p l e Rm s m args below meth c G nL Q cells slots z K N I R pc lv (.int (zI a) :: st) := fun H locs ls hW hL hl hd => by
  subst he
  exact lv_tableIn C.1 C.2.1 d (by rw [zI_int hv]; omega) (by rw [zI_int hv]; omega) (by rw [zI_int hv]; exact ho) ht (k H locs ls hW hL hl hd)
theorem z_look (C : Cx p l e Rm s m args below meth c G cc nL own ret) {dflt a : Int} {ps : Array (Int × Int)} {len : Nat} {off : Int} {tgt : Nat} (d : decode cc pc = .ok (.lookupswitch dflt ps, len)) (hp : (ps.toList.zip (ps.toList.drop 1)).all (fun (a, next) => a.1 < next.1) = true) (ha : -2147483648 ≤ a ∧ a < 2147483648) (ho : Op.lookupswitch.offset ps.toList dflt a = off) (ht : (pc : Int) + off = (tgt : Int))
    (k : Zq p l e Rm s m args below meth c G nL Q cells slots z K N I R tgt lv st) : Zq p l e Rm s m args below meth c G nL Q cells slots z K N I R pc lv (.int (zI a) :: st) := fun H locs ls hW hL hl hd =>
  lv_lookup C.1 C.2.1 d hp (by rw [zI_int ha]; exact ho) ht (k H locs ls hW hL hl hd)
theorem z_get (C : Cx p l e Rm s m args below meth c G cc nL own ret) {i ci k a N0 : Nat} {C0 : String} {T0 : u_T} (hc : vwCl[ci]? = some (C0, T0, N0)) (h8 : ci < 8) (hn : znf ci = N0) (hk : k < N0) (hin : ∀ w ∈ u_ws C0 T0 N0, w ∈ wsL_law) (hlink : Cond.fieldLink own i (T0 k).1 (T0 k).2.1 (T0 k).2.2.1 ∈ wsL_law) (d : decode cc pc = .ok (.getfield i, 3)) (ha : zK G z K a ci)
    (k0 : Zq p l e Rm s m args below meth c G nL Q cells slots z K N I R (pc + 3) lv (zfv (zty ci k) (I a k) (R a k) :: st)) : Zq p l e Rm s m args below meth c G nL Q cells slots z K N I R pc lv (.ref a :: st) := fun H locs ls hW hL hl hd =>
  va_get (ws := [(a, .inr (ci, zfs ci I R a))]) C.1 C.2.1 C.2.2.2.2.1 hin C.2.2.2.1 C.2.2.2.2.2.2.2.1.1 (va_P1 (by rw [← zat_o (ct := G.2.1) (N := N) ha.2.2 h8]; exact hW.2.2.2 a ha.1 ha.2.1)) 0 rfl hc k hk (C.2.2.2.2.1 _ hlink) (fun _ h9 => h9) (zfs_get (by omega)) d (k0 H locs ls hW hL hl hd)
theorem z_gI (C : Cx p l e Rm s m args below meth c G cc nL own ret) {i ci k a N0 : Nat} {C0 : String} {T0 : u_T} (hc : vwCl[ci]? = some (C0, T0, N0)) (h8 : ci < 8) (hn : znf ci = N0) (hk : k < N0) (hin : ∀ w ∈ u_ws C0 T0 N0, w ∈ wsL_law) (hlink : Cond.fieldLink own i (T0 k).1 (T0 k).2.1 (T0 k).2.2.1 ∈ wsL_law) (ht : zty ci k = .int) (d : decode cc pc = .ok (.getfield i, 3)) (ha : zK G z K a ci)
    (k0 : Zq p l e Rm s m args below meth c G nL Q cells slots z K N I R (pc + 3) lv (.int (zI (I a k)) :: st)) : Zq p l e Rm s m args below meth c G nL Q cells slots z K N I R pc lv (.ref a :: st) :=
  z_get C hc h8 hn hk hin hlink d ha (z_top (by rw [ht]; rfl) k0)
theorem zfv_r {ty : FieldType} (h : ¬ ty = .int) (x : Int) (r : Option Nat) : zfv ty x r = va_rf r := by
  cases ty <;> first | rfl | exact absurd rfl h
theorem z_gO (C : Cx p l e Rm s m args below meth c G cc nL own ret) {i ci k a N0 : Nat} {C0 : String} {T0 : u_T} (hc : vwCl[ci]? = some (C0, T0, N0)) (h8 : ci < 8) (hn : znf ci = N0) (hk : k < N0) (hin : ∀ w ∈ u_ws C0 T0 N0, w ∈ wsL_law) (hlink : Cond.fieldLink own i (T0 k).1 (T0 k).2.1 (T0 k).2.2.1 ∈ wsL_law) (ht : ¬ zty ci k = .int) (d : decode cc pc = .ok (.getfield i, 3)) (ha : zK G z K a ci)
    (k0 : Zq p l e Rm s m args below meth c G nL Q cells slots z K N I R (pc + 3) lv (va_rf (R a k) :: st)) : Zq p l e Rm s m args below meth c G nL Q cells slots z K N I R pc lv (.ref a :: st) :=
  z_get C hc h8 hn hk hin hlink d ha (z_top (zfv_r ht _ _) k0)
theorem z_gR (C : Cx p l e Rm s m args below meth c G cc nL own ret) {i ci k a N0 : Nat} {C0 : String} {T0 : u_T} {b : Nat} (hc : vwCl[ci]? = some (C0, T0, N0)) (h8 : ci < 8) (hn : znf ci = N0) (hk : k < N0) (hin : ∀ w ∈ u_ws C0 T0 N0, w ∈ wsL_law) (hlink : Cond.fieldLink own i (T0 k).1 (T0 k).2.1 (T0 k).2.2.1 ∈ wsL_law) (ht : ¬ zty ci k = .int) (d : decode cc pc = .ok (.getfield i, 3)) (ha : zK G z K a ci) (hr : R a k = some b)
    (k0 : Zq p l e Rm s m args below meth c G nL Q cells slots z K N I R (pc + 3) lv (.ref b :: st)) : Zq p l e Rm s m args below meth c G nL Q cells slots z K N I R pc lv (.ref a :: st) :=
  z_get C hc h8 hn hk hin hlink d ha (z_top (by rw [zfv_r ht, hr]; rfl) k0)
theorem zk_put (C : Cx p l e Rm s m args below meth c G cc nL own ret) {i ci k a N0 : Nat} {C0 : String} {T0 : u_T} {H : Heap} {locs : List Loc} {ls : Array Slot} (ty0 : Nat → FieldType) (hty : ∀ k, k < N0 → parseFieldDescriptor (T0 k).2.2.1 = some (ty0 k)) (hnm : ∀ a, a < N0 → ∀ b, b < N0 → a ≠ b → (T0 a).2.1 ≠ (T0 b).2.1) (hin : ∀ w ∈ u_ws C0 T0 N0, w ∈ wsL_law) {fs : List Value} (hat : va_at G.1 vwCl (a, .inr (ci, fs)) H) (hc : vwCl[ci]? = some (C0, T0, N0)) (hk : k < N0) (hlink : Cond.fieldLink own i (T0 k).1 (T0 k).2.1 (T0 k).2.2.1 ∈ wsL_law)
    (hfin : (T0 k).2.2.2 = false ∨ ((T0 k).2.2.2 = true ∧ meth.name = "<init>" ∧ (T0 k).1 = own)) {v : Value} (hn : narrow (ty0 k) v = v) (hfit : fits (ty0 k) v = true) (hl : k < fs.length) (hdg : decode cc pc = .ok (.putfield i, 3))
    (kk : ∀ (H1 : Heap) (l1 : Loc), l1.base = a → va_at G.1 vwCl (a, .inr (ci, fs.set k v)) H1 → H1.size = H.size → (∀ q : Nat, q ≠ a → H1[q]? = H[q]?) → W p l e Rm s m args below meth c H1 (locs ++ [l1]) cells slots Q (F0 m (pc + 3) ls st)) : W p l e Rm s m args below meth c H locs cells slots Q (F0 m pc ls (v :: .ref a :: st)) := by
  obtain ⟨hexec, hb, -, hown, hts, -, -, hWv, -⟩ := C
  have hK := hWv.1
  have hap := va_apart (own := own) hts hin ty0 hty hnm hK hc
  obtain ⟨r, h1, cell, q1, q2, q3, q4⟩ := hat
  have hr : r = (C0, T0, N0) := Option.some.inj (h1.symm.trans hc)
  subst hr
  obtain ⟨hS, hfc, kC, hkC, hkind⟩ := hK.1 ci _ hc
  obtain ⟨cf, kf, fi, f, hi, hsl⟩ := hS k hk
  have hlay := hts _ (hin _ (u_in_lay hk))
  have hst := (u_facts hfc hkC (u_lays hts hin hk) hi).1
  have hd := hty k hk
  rcases hfin with hfin | ⟨hfin, hin2, hdecl⟩
  · unfold u_lay at hlay
    rw [if_neg (by rw [hfin]; decide)] at hlay
    have h6 := u_store hfc hkC hkind hlay hi hd hn hfit
    refine W.putK hexec hb (f := f) ⟨hown, hts _ hlink, ⟨_, _, _, hi⟩, hst⟩ (by rw [q2]; exact h6) q1 q3 (by rw [hsl]; exact k2_hasslot (q4 k hk)) rfl rfl hdg fun H' e1 e2 e3 => ?_
    rw [hsl] at e1 ⊢
    exact kk H' _ rfl ⟨_, hc, t_OB.to (V := updV (vp_V fs) k v) ⟨_, e1, q2, q3, t_set q4 hap hk v⟩ (fun j _ => vp_updV_set hl v j)⟩ e2 e3
  · unfold u_lay at hlay
    rw [if_pos hfin] at hlay
    have hcf : m.cls = cf := by
      obtain ⟨_, _, c', _, _, _, -, -, hf', -, -, -, hown2, -⟩ := Cond.laysFinal_spec hlay
      have e1 : c' = cf := by have := hi.symm.trans hf'; simp at this; exact this.1.symm
      rw [hdecl] at hown2
      rw [← e1]; exact Option.some.inj (hown.symm.trans hown2)
    have h6 := u_fits hfc hkC hkind (Or.inr hlay) hi hd hn hfit
    refine W.putFinK hexec hb hown (hts _ hlink) hi hst hcf hin2 (by rw [q2]; exact h6) q1 q3 (by rw [hsl]; exact k2_hasslot (q4 k hk)) rfl rfl hdg fun H' e1 e2 e3 => ?_
    rw [hsl] at e1 ⊢
    exact kk H' _ rfl ⟨_, hc, t_OB.to (V := updV (vp_V fs) k v) ⟨_, e1, q2, q3, t_set q4 hap hk v⟩ (fun j _ => vp_updV_set hl v j)⟩ e2 e3
theorem zloc {G : GG} {locs : List Loc} {l1 : Loc} {a : Nat} (hL : ∀ q ∈ locs, G.2.2.size ≤ q.base) (e : l1.base = a) (ha : G.2.2.size ≤ a) : ∀ q ∈ locs ++ [l1], G.2.2.size ≤ q.base := fun q hq => by
  rcases List.mem_append.mp hq with h | h
  · exact hL q h
  · rw [List.mem_singleton.mp h, e]; exact ha
theorem z_pI (C : Cx p l e Rm s m args below meth c G cc nL own ret) {i ci k a N0 : Nat} {C0 : String} {T0 : u_T} {v : Int} (hc : vwCl[ci]? = some (C0, T0, N0)) (h8 : ci < 8) (hn : znf ci = N0) (hk : k < N0) (hty : ∀ k, k < N0 → parseFieldDescriptor (T0 k).2.2.1 = some (zty ci k)) (hnm : ∀ a, a < N0 → ∀ b, b < N0 → a ≠ b → (T0 a).2.1 ≠ (T0 b).2.1) (hin : ∀ w ∈ u_ws C0 T0 N0, w ∈ wsL_law) (hlink : Cond.fieldLink own i (T0 k).1 (T0 k).2.1 (T0 k).2.2.1 ∈ wsL_law) (ht : zty ci k = .int)
    (hfin : (T0 k).2.2.2 = false ∨ ((T0 k).2.2.2 = true ∧ meth.name = "<init>" ∧ (T0 k).1 = own)) (d : decode cc pc = .ok (.putfield i, 3)) (ha : zK G z K a ci)
    (k0 : Zq p l e Rm s m args below meth c G nL Q cells slots z K N (u2 I a k v) R (pc + 3) lv st) : Zq p l e Rm s m args below meth c G nL Q cells slots z K N I R pc lv (.int (zI v) :: .ref a :: st) := fun H locs ls hW hL hl hd => by
  refine zk_put C (zty ci) hty hnm hin (fs := zfs ci I R a) (by rw [← zat_o (ct := G.2.1) (N := N) ha.2.2 h8]; exact hW.2.2.2 a ha.1 ha.2.1) hc hk hlink hfin (by rw [ht]; rfl) (by rw [ht]; rfl) (by rw [zfs_len]; omega) d fun H1 l1 e1 e2 e3 e4 => ?_
  refine k0 H1 _ ls (hW.upd ha.1 e3 e4 ?_ fun b hb => ⟨u2_row hb, rfl⟩) (zloc hL e1 ha.1) hl hd
  rw [zat_o ha.2.2 h8, ← zfs_set (I := I) (R := R) (k := k) (v := .int (zI v)) (by omega) (by rw [ht, u2_s]; rfl) (fun j hj => ⟨u2_k hj, rfl⟩)]
  exact e2
theorem z_pR (C : Cx p l e Rm s m args below meth c G cc nL own ret) {i ci k a N0 : Nat} {C0 : String} {T0 : u_T} {r : Option Nat} (hc : vwCl[ci]? = some (C0, T0, N0)) (h8 : ci < 8) (hn : znf ci = N0) (hk : k < N0) (hty : ∀ k, k < N0 → parseFieldDescriptor (T0 k).2.2.1 = some (zty ci k)) (hnm : ∀ a, a < N0 → ∀ b, b < N0 → a ≠ b → (T0 a).2.1 ≠ (T0 b).2.1) (hin : ∀ w ∈ u_ws C0 T0 N0, w ∈ wsL_law) (hlink : Cond.fieldLink own i (T0 k).1 (T0 k).2.1 (T0 k).2.2.1 ∈ wsL_law) (ht : ¬ zty ci k = .int) (hrk : ∀ r : Option Nat, narrow (zty ci k) (va_rf r) = va_rf r ∧ fits (zty ci k) (va_rf r) = true)
    (hfin : (T0 k).2.2.2 = false ∨ ((T0 k).2.2.2 = true ∧ meth.name = "<init>" ∧ (T0 k).1 = own)) (d : decode cc pc = .ok (.putfield i, 3)) (ha : zK G z K a ci)
    (k0 : Zq p l e Rm s m args below meth c G nL Q cells slots z K N I (u2 R a k r) (pc + 3) lv st) : Zq p l e Rm s m args below meth c G nL Q cells slots z K N I R pc lv (va_rf r :: .ref a :: st) := fun H locs ls hW hL hl hd => by
  refine zk_put C (zty ci) hty hnm hin (fs := zfs ci I R a) (by rw [← zat_o (ct := G.2.1) (N := N) ha.2.2 h8]; exact hW.2.2.2 a ha.1 ha.2.1) hc hk hlink hfin (hrk r).1 (hrk r).2 (by rw [zfs_len]; omega) d fun H1 l1 e1 e2 e3 e4 => ?_
  refine k0 H1 _ ls (hW.upd ha.1 e3 e4 ?_ fun b hb => ⟨rfl, u2_row hb⟩) (zloc hL e1 ha.1) hl hd
  rw [zat_o ha.2.2 h8, ← zfs_set (I := I) (R := R) (k := k) (v := va_rf r) (by omega) (by rw [zfv_r ht, u2_s]) (fun j hj => ⟨rfl, u2_k hj⟩)]
  exact e2
theorem zwI {H : Heap} {a : Nat} (hW : Wh G z K N I R H) (ha : zK G z K a 9) : H[a]? = some (vp_cell (G.2.1 1) (N a, .inl (fun j => zI (I a j)))) := by
  have h := hW.2.2.2 a ha.1 ha.2.1
  rw [zat_i ha.2.2] at h
  exact h
theorem zwC {H : Heap} {a : Nat} (hW : Wh G z K N I R H) (ha : zK G z K a 8) : H[a]? = some (vp_cell (G.2.1 0) (N a, .inl (fun j => zI (I a j)))) := by
  have h := hW.2.2.2 a ha.1 ha.2.1
  rw [zat_c ha.2.2] at h
  exact h
theorem z_iald (C : Cx p l e Rm s m args below meth c G cc nL own ret) {a : Nat} {j : Int} (d : decode cc pc = .ok (.iaload, 1)) (ha : zK G z K a 9) (hj : 0 ≤ j ∧ j < (N a : Int)) (hN : N a < 2147483648)
    (k : Zq p l e Rm s m args below meth c G nL Q cells slots z K N I R (pc + 1) lv (.int (zI (I a j.toNat)) :: st)) : Zq p l e Rm s m args below meth c G nL Q cells slots z K N I R pc lv (.int (zI j) :: .ref a :: st) := fun H locs ls hW hL hl hd => by
  obtain ⟨h1, h2⟩ := zI_idx hj.1 hj.2 hN
  refine va_iald (ws := [(a, .inl (G.2.1 1, N a, .inl (fun j => zI (I a j))))]) C.1 C.2.1 C.2.2.2.2.2.2.2.1.1 (va_P1 (zwI hW ha)) 0 1 rfl rfl h1 d ?_
  rw [h2]
  exact k H locs ls hW hL hl hd
theorem z_cald (C : Cx p l e Rm s m args below meth c G cc nL own ret) {a : Nat} {j : Int} (d : decode cc pc = .ok (.caload, 1)) (ha : zK G z K a 8) (hj : 0 ≤ j ∧ j < (N a : Int)) (hN : N a < 2147483648)
    (k : Zq p l e Rm s m args below meth c G nL Q cells slots z K N I R (pc + 1) lv (.int (zI (I a j.toNat)) :: st)) : Zq p l e Rm s m args below meth c G nL Q cells slots z K N I R pc lv (.int (zI j) :: .ref a :: st) := fun H locs ls hW hL hl hd => by
  obtain ⟨h1, h2⟩ := zI_idx hj.1 hj.2 hN
  refine va_cald (ws := [(a, .inl (G.2.1 0, N a, .inl (fun j => zI (I a j))))]) C.1 C.2.1 C.2.2.2.2.2.2.2.1.1 (va_P1 (zwC hW ha)) 0 0 rfl rfl h1 d ?_
  rw [h2]
  exact k H locs ls hW hL hl hd
theorem zupI {I : MI} {a i : Nat} {v : Int} (cA : ClassId) (n : Nat) : (vp_cell cA (n, .inl (fun j => zI (I a j)))).setSlot i (.int (zI v)) = vp_cell cA (n, .inl (fun j => zI (u2 I a i v a j))) := by
  rw [vp_cell_i, vp_cell_i, arrV_store]
  congr 2
  funext q
  by_cases hq : q = i
  · subst hq
    simp [updV, u2_s]
  · simp [updV, hq, u2_k hq]
theorem z_iast (C : Cx p l e Rm s m args below meth c G cc nL own ret) {a : Nat} {j : Int} {v : Int} (d : decode cc pc = .ok (.iastore, 1)) (ha : zK G z K a 9) (hj : 0 ≤ j ∧ j < (N a : Int)) (hN : N a < 2147483648)
    (k : Zq p l e Rm s m args below meth c G nL Q cells slots z K N (u2 I a j.toNat v) R (pc + 1) lv st) : Zq p l e Rm s m args below meth c G nL Q cells slots z K N I R pc lv (.int (zI v) :: .int (zI j) :: .ref a :: st) := fun H locs ls hW hL hl hd => by
  obtain ⟨h1, h2⟩ := zI_idx hj.1 hj.2 hN
  refine W.iast C.1 C.2.1 (zwI hW ha) ((C.2.2.2.2.2.2.2.1.1.2 1 _ rfl).1 (N a) (fun j => .int (zI (I a j)))) (fun q => by cases q) (by show ¬ (zI j < 0 ∨ (arrV _ _ _).slots.size ≤ _); rw [arrV_size]; exact h1) rfl rfl d fun H1 e1 e2 e3 => ?_
  refine k H1 _ ls (hW.upd ha.1 e2 e3 ?_ fun b hb => ⟨u2_row hb, rfl⟩) (zloc hL rfl ha.1) hl hd
  rw [zat_i ha.2.2]
  show H1[a]? = some (vp_cell _ _)
  rw [e1, h2, zupI]
theorem zchar {v : Int} (h : 0 ≤ v ∧ v < 65536) : narrow .char (.int (zI v)) = .int (zI v) := by
  obtain ⟨n, rfl⟩ := Int.eq_ofNat_of_zero_le h.1
  exact (pk_charN (by omega)).1
theorem z_cast (C : Cx p l e Rm s m args below meth c G cc nL own ret) {a : Nat} {j : Int} {v : Int} (d : decode cc pc = .ok (.castore, 1)) (ha : zK G z K a 8) (hj : 0 ≤ j ∧ j < (N a : Int)) (hN : N a < 2147483648) (hv : 0 ≤ v ∧ v < 65536)
    (k : Zq p l e Rm s m args below meth c G nL Q cells slots z K N (u2 I a j.toNat v) R (pc + 1) lv st) : Zq p l e Rm s m args below meth c G nL Q cells slots z K N I R pc lv (.int (zI v) :: .int (zI j) :: .ref a :: st) := fun H locs ls hW hL hl hd => by
  obtain ⟨h1, h2⟩ := zI_idx hj.1 hj.2 hN
  refine W.cast C.1 C.2.1 (zwC hW ha) ((C.2.2.2.2.2.2.2.1.1.2 0 _ rfl).1 (N a) (fun j => .int (zI (I a j)))) (fun q => by cases q) (by show ¬ (zI j < 0 ∨ (arrV _ _ _).slots.size ≤ _); rw [arrV_size]; exact h1) rfl rfl d fun H1 e1 e2 e3 => ?_
  refine k H1 _ ls (hW.upd ha.1 e2 e3 ?_ fun b hb => ⟨u2_row hb, rfl⟩) (zloc hL rfl ha.1) hl hd
  rw [zat_c ha.2.2]
  show H1[a]? = some (vp_cell _ _)
  rw [e1, h2, zchar hv, zupI]
theorem z_alen (C : Cx p l e Rm s m args below meth c G cc nL own ret) {a : Nat} (d : decode cc pc = .ok (.arraylength, 1)) (ha : zK G z K a 9)
    (k : Zq p l e Rm s m args below meth c G nL Q cells slots z K N I R (pc + 1) lv (.int (zI (N a : Int)) :: st)) : Zq p l e Rm s m args below meth c G nL Q cells slots z K N I R pc lv (.ref a :: st) := fun H locs ls hW hL hl hd =>
  va_alen (ws := [(a, .inl (G.2.1 1, N a, .inl (fun j => zI (I a j))))]) C.1 C.2.1 C.2.2.2.2.2.2.2.1.1 (va_P1 (zwI hW ha)) 0 1 rfl rfl (v := zI (N a : Int)) rfl d (k H locs ls hW hL hl hd)
theorem z_aalen (C : Cx p l e Rm s m args below meth c G cc nL own ret) {a : Nat} (d : decode cc pc = .ok (.arraylength, 1)) (ha : zK G z K a 11)
    (k : Zq p l e Rm s m args below meth c G nL Q cells slots z K N I R (pc + 1) lv (.int (zI (N a : Int)) :: st)) : Zq p l e Rm s m args below meth c G nL Q cells slots z K N I R pc lv (.ref a :: st) := fun H locs ls hW hL hl hd =>
  va_alen (ws := [(a, .inl (G.2.1 3, N a, .inr (.inr (.inr (.inr (R a))))))]) C.1 C.2.1 C.2.2.2.2.2.2.2.1.1 (va_P1 (by rw [← zat_t (I := I) (R := R) ha.2.2]; exact hW.2.2.2 a ha.1 ha.2.1)) 0 3 rfl rfl (v := zI (N a : Int)) rfl d (k H locs ls hW hL hl hd)
theorem z_aald (C : Cx p l e Rm s m args below meth c G cc nL own ret) {a : Nat} {j : Int} (kd : Nat) (hkd : kd = 10 ∨ kd = 11) (d : decode cc pc = .ok (.aaload, 1)) (ha : zK G z K a kd) (hj : 0 ≤ j ∧ j < (N a : Int)) (hN : N a < 2147483648)
    (k : Zq p l e Rm s m args below meth c G nL Q cells slots z K N I R (pc + 1) lv (va_rf (R a j.toNat) :: st)) : Zq p l e Rm s m args below meth c G nL Q cells slots z K N I R pc lv (.int (zI j) :: .ref a :: st) := fun H locs ls hW hL hl hd => by
  obtain ⟨h1, h2⟩ := zI_idx hj.1 hj.2 hN
  have hat := hW.2.2.2 a ha.1 ha.2.1
  have k1 := k H locs ls hW hL hl hd
  rw [← h2] at k1
  rcases hkd with e | e
  · subst e
    rw [zat_g ha.2.2] at hat
    exact va_aldq C.1 C.2.1 C.2.2.2.2.2.2.2.1.1 (va_P1 hat) 0 2 rfl rfl h1 d k1
  · subst e
    rw [zat_t ha.2.2] at hat
    exact va_aldq C.1 C.2.1 C.2.2.2.2.2.2.2.1.1 (va_P1 hat) 0 3 rfl rfl h1 d k1
theorem va_up_s {α : Type} (f : Nat → α) (a : Nat) (v : α) : va_up f a v a = v := if_pos rfl
theorem va_up_n {α : Type} {f : Nat → α} {a b : Nat} {v : α} (h : b ≠ a) : va_up f a v b = f b := if_neg h
theorem z_aast (C : Cx p l e Rm s m args below meth c G cc nL own ret) {a : Nat} {j : Int} (kd ci : Nat) {b N0 : Nat} {C0 : String} {T0 : u_T} (hkd : (kd = 10 ∧ C0 = RX1) ∨ (kd = 11 ∧ C0 = RX4)) (h8 : ci < 8) (hc : vwCl[ci]? = some (C0, T0, N0)) (d : decode cc pc = .ok (.aastore, 1)) (ha : zK G z K a kd) (hb : zK G z K b ci) (hj : 0 ≤ j ∧ j < (N a : Int)) (hN : N a < 2147483648)
    (k : Zq p l e Rm s m args below meth c G nL Q cells slots z K N I (u2 R a j.toNat (some b)) (pc + 1) lv st) : Zq p l e Rm s m args below meth c G nL Q cells slots z K N I R pc lv (.ref b :: .int (zI j) :: .ref a :: st) := fun H locs ls hW hL hl hd => by
  obtain ⟨h1, h2⟩ := zI_idx hj.1 hj.2 hN
  have hat := hW.2.2.2 a ha.1 ha.2.1
  have hv := hW.2.2.2 b hb.1 hb.2.1
  rw [zat_o hb.2.2 h8] at hv
  obtain ⟨cA, tk, ht, hz⟩ : ∃ (cA : ClassId) (tk : Nat), (ztys G.2.1)[tk]? = some (cA, .object C0) ∧ ∀ R' : MR, zat G.2.1 K N I R' a = .inl (cA, N a, .inr (.inr (.inr (.inr (R' a))))) := by
    rcases hkd with ⟨e, e2⟩ | ⟨e, e2⟩
    · subst e; subst e2; exact ⟨_, 2, rfl, fun R' => zat_g ha.2.2⟩
    · subst e; subst e2; exact ⟨_, 3, rfl, fun R' => zat_t ha.2.2⟩
  rw [hz] at hat
  have hK := C.2.2.2.2.2.2.2.1.1
  have hlt : (zI j).toNatClampNeg < N a := Nat.not_le.mp fun q => h1 (Or.inr q)
  have h0 : ¬ zI j < 0 := fun q => h1 (Or.inl q)
  obtain ⟨r', hr', cellV, g1, g2, g3, -⟩ := hv
  have hcls := (hK.1 ci _ hc).2
  obtain ⟨kA, comp, k1, k2, k3, -⟩ := (hK.2 tk _ ht).2
  have hcomp : comp = G.1.1 ci := Option.some.inj (k3.symm.trans hcls.1)
  subst hcomp
  obtain ⟨kC, hkC, -⟩ := hcls.2
  refine W.aast C.1 C.2.1 hat (fun q h => by cases h) (fun h => by cases h) k1 k2 rfl hkC ⟨h0, by show _ < (arrV _ _ _).slots.size; rw [arrV_size]; exact hlt⟩ g1 (fun q h => by rw [g3] at h; cases h) (by rw [g2]; exact hkC) (by rw [g2]; exact va_assign hcls) rfl rfl d fun H1 e1 e2 e3 => ?_
  refine k H1 _ ls (hW.upd ha.1 e2 e3 ?_ fun b hb => ⟨rfl, u2_row hb⟩) (zloc hL rfl ha.1) hl hd
  rw [hz]
  show H1[a]? = some (vp_cell _ _)
  rw [e1, h2, vp_cell_q, vp_cell_q, arrV_store]
  congr 2
  funext q
  by_cases hq : q = j.toNat
  · subst hq
    simp [updV, u2_s, va_rf]
  · simp [updV, hq, u2_k hq]
theorem z_new (C : Cx p l e Rm s m args below meth c G cc nL own ret) (ci : Nat) {i N0 : Nat} {C0 : String} {T0 : u_T} (hc : vwCl[ci]? = some (C0, T0, N0)) (h8 : ci < 8) (hn : znf ci = N0) (hty : ∀ k, k < N0 → parseFieldDescriptor (T0 k).2.2.1 = some (zty ci k)) (hdf : ∀ k, k < N0 → defaultValue (zty ci k) = zfv (zty ci k) 0 none) (hin : ∀ w ∈ u_ws C0 T0 N0, w ∈ wsL_law) (hcl : Cond.classLink own i C0 ∈ wsL_law) (hinst : Cond.instantiable C0 N0 ∈ wsL_law) (hini : Cond.initialized C0 ∈ wsL_law) (d : decode cc pc = .ok (.new i, 3)) (hcells : cells + 1 ≤ Rm.cells) (hslots : slots + N0 ≤ Rm.slots)
    (k : Zq p l e Rm s m args below meth c G nL Q (cells + 1) (slots + N0) (z + 1) (va_up K z ci) N (va_up I z (fun _ => 0)) (va_up R z (fun _ => none)) (pc + 3) lv (.ref z :: st)) : Zq p l e Rm s m args below meth c G nL Q cells slots z K N I R pc lv st := fun H locs ls hW hL hl hd => by
  have hKn := C.2.2.2.2.2.2.2.1.1.1 ci _ hc
  refine W.newcK C.1 C.2.1 C.2.2.2.1 (C.2.2.2.2.1 _ hcl) (C.2.2.2.2.1 _ hinst) (C.2.2.2.2.1 _ hini) rfl d hcells hslots hKn.2.1 hW.1 fun H1 kC hkC e1 z1 o1 => ?_
  refine k H1 locs ls (hW.push (by rw [z1, hW.1]) (by rw [hW.1]; exact o1) ?_ fun b hb => ⟨va_up_n (Nat.ne_of_lt hb), rfl, va_up_n (Nat.ne_of_lt hb), va_up_n (Nat.ne_of_lt hb)⟩) hL hl hd
  rw [zat_o (va_up_s K z ci) h8]
  refine ⟨_, hc, (u_born (zty ci) C.2.2.2.2.1 hin hKn hkC e1 hty).to fun j hj => ?_⟩
  have hj' : j < znf ci := by rw [hn]; exact hj
  show defaultValue (zty ci j) = (zfs ci _ _ z).getD j .null
  rw [List.getD_eq_getElem?_getD, zfs_get hj', va_up_s, va_up_s, hdf j hj]
  rfl
theorem z_newa (C : Cx p l e Rm s m args below meth c G cc nL own ret) {n : Int} (d : decode cc pc = .ok (.newarray .int, 2)) (hw : Cond.arrayClass .int ∈ wsL_law) (hn : 0 ≤ n ∧ n < 2000) (hcells : cells + 1 ≤ Rm.cells) (hslots : slots + n.toNat ≤ Rm.slots)
    (k : Zq p l e Rm s m args below meth c G nL Q (cells + 1) (slots + n.toNat) (z + 1) (va_up K z 9) (va_up N z n.toNat) (va_up I z (fun _ => 0)) R (pc + 2) lv (.ref z :: st)) : Zq p l e Rm s m args below meth c G nL Q cells slots z K N I R pc lv (.int (zI n) :: st) := fun H locs ls hW hL hl hd => by
  obtain ⟨c1, c2⟩ := zI_clamp hn.1 (by omega)
  refine va_newaK (atype := .int) C.1 C.2.1 (C.2.2.2.2.1 _ hw) rfl d rfl c2 c1 (by show _ * 4 ≤ _; omega) hcells hslots hW.1 fun H1 cA e1 z1 o1 hAr hNm => ?_
  have hca : G.2.1 1 = cA := Option.some.inj ((C.2.2.2.2.2.2.2.1.1.2 1 _ rfl).2.symm.trans hNm)
  refine k H1 locs ls (hW.push (by rw [z1, hW.1]) (by rw [hW.1]; exact o1) ?_ fun b hb => ⟨va_up_n (Nat.ne_of_lt hb), va_up_n (Nat.ne_of_lt hb), va_up_n (Nat.ne_of_lt hb), rfl⟩) hL hl hd
  rw [zat_i (va_up_s K z 9), va_up_s, va_up_s, hca]
  show H1[z]? = some (vp_cell _ _)
  rw [vp_cell_i, e1]
  rfl
theorem z_newc (C : Cx p l e Rm s m args below meth c G cc nL own ret) {n : Int} (d : decode cc pc = .ok (.newarray .char, 2)) (hw : Cond.arrayClass .char ∈ wsL_law) (hn : 0 ≤ n ∧ n < 2000) (hcells : cells + 1 ≤ Rm.cells) (hslots : slots + n.toNat ≤ Rm.slots)
    (k : Zq p l e Rm s m args below meth c G nL Q (cells + 1) (slots + n.toNat) (z + 1) (va_up K z 8) (va_up N z n.toNat) (va_up I z (fun _ => 0)) R (pc + 2) lv (.ref z :: st)) : Zq p l e Rm s m args below meth c G nL Q cells slots z K N I R pc lv (.int (zI n) :: st) := fun H locs ls hW hL hl hd => by
  obtain ⟨c1, c2⟩ := zI_clamp hn.1 (by omega)
  refine va_newaK (atype := .char) C.1 C.2.1 (C.2.2.2.2.1 _ hw) rfl d rfl c2 c1 (by show _ * 2 ≤ _; omega) hcells hslots hW.1 fun H1 cA e1 z1 o1 hAr hNm => ?_
  have hca : G.2.1 0 = cA := Option.some.inj ((C.2.2.2.2.2.2.2.1.1.2 0 _ rfl).2.symm.trans hNm)
  refine k H1 locs ls (hW.push (by rw [z1, hW.1]) (by rw [hW.1]; exact o1) ?_ fun b hb => ⟨va_up_n (Nat.ne_of_lt hb), va_up_n (Nat.ne_of_lt hb), va_up_n (Nat.ne_of_lt hb), rfl⟩) hL hl hd
  rw [zat_c (va_up_s K z 8), va_up_s, va_up_s, hca]
  show H1[z]? = some (vp_cell _ _)
  rw [vp_cell_i, e1]
  rfl
theorem z_anew (C : Cx p l e Rm s m args below meth c G cc nL own ret) (kd : Nat) {i : Nat} {n : Int} {C0 : String} (hkd : (kd = 10 ∧ C0 = RX1) ∨ (kd = 11 ∧ C0 = RX4)) (d : decode cc pc = .ok (.anewarray i, 3)) (hcl : Cond.classLink own i C0 ∈ wsL_law) (hn : 0 ≤ n ∧ n < 2000) (hcells : cells + 1 ≤ Rm.cells) (hslots : slots + n.toNat ≤ Rm.slots)
    (k : Zq p l e Rm s m args below meth c G nL Q (cells + 1) (slots + n.toNat) (z + 1) (va_up K z kd) (va_up N z n.toNat) I (va_up R z (fun _ => none)) (pc + 3) lv (.ref z :: st)) : Zq p l e Rm s m args below meth c G nL Q cells slots z K N I R pc lv (.int (zI n) :: st) := fun H locs ls hW hL hl hd => by
  obtain ⟨c1, c2⟩ := zI_clamp hn.1 (by omega)
  have hWv := C.2.2.2.2.2.2.2.1
  have hAO : va_AO C0 s := by rcases hkd with ⟨-, e⟩ | ⟨-, e⟩ <;> subst e; exact hWv.2.2.2.2.2.1; exact hWv.2.2.2.2.2.2
  refine W.anew C.1 C.2.1 C.2.2.2.1 (C.2.2.2.2.1 _ hcl) (va_AO.use hAO) rfl d rfl c2 (by rw [c1]; omega) hcells (by rw [c1]; exact hslots) fun cA kA comp f1 f2 f3 f4 => ?_
  rw [c1]
  obtain ⟨tk, ht, hz⟩ : ∃ (tk : Nat), (ztys G.2.1)[tk]? = some (G.2.1 tk, .object C0) ∧ ∀ (N' : Nat → Nat) (R' : MR), zat G.2.1 (va_up K z kd) N' I R' z = .inl (G.2.1 tk, N' z, .inr (.inr (.inr (.inr (R' z))))) := by
    rcases hkd with ⟨e, e2⟩ | ⟨e, e2⟩
    · subst e; subst e2; exact ⟨2, rfl, fun N' R' => zat_g (va_up_s K z 10)⟩
    · subst e; subst e2; exact ⟨3, rfl, fun N' R' => zat_t (va_up_s K z 11)⟩
  obtain ⟨kA', comp', g1, g2, g3, g4⟩ := (hWv.1.2 tk _ ht).2
  have hca : G.2.1 tk = cA := Option.some.inj (g4.symm.trans f1)
  have e1 : ∀ q : Nat, q < H.size → (H.push ({ cls := cA, slots := Array.replicate n.toNat .null, vm := .none } : Cell))[q]? = H[q]? := fun q hq => by rw [Array.getElem?_push, if_neg (Nat.ne_of_lt hq)]
  have e2 : (H.push ({ cls := cA, slots := Array.replicate n.toNat .null, vm := .none } : Cell))[H.size]? = some (arrV cA n.toNat (fun _ => .null)) := by rw [Array.getElem?_push_size, ← arrV_new]
  refine W.eq (g2 := F0 m (pc + 3) ls (.ref z :: st)) (by rw [hW.1]) (k _ locs ls (hW.push (by rw [Array.size_push]) e1 ?_ fun b hb => ⟨va_up_n (Nat.ne_of_lt hb), va_up_n (Nat.ne_of_lt hb), rfl, va_up_n (Nat.ne_of_lt hb)⟩) hL hl hd)
  rw [hz, va_up_s, va_up_s, hca]
  show _ = some (vp_cell _ _)
  have e3 := e2
  rw [hW.1] at e3
  rw [vp_cell_q, e3]
  rfl
def zsa (s : State) (H0 : Heap) (t : Nat) (f : Nat → Int) : Prop := t < H0.size ∧ ∃ cell : Cell, H0[t]? = some cell ∧ cell.vm = .none ∧ s.isArrayOf cell .int ∧ s.vm.findClass "[I" = some cell.cls ∧ cell.slots.size = 3 ∧ ∀ j : Nat, j < 3 → cell.slots[j]? = some (.int (zI (f j)))
theorem z_gets0 (C : Cx p l e Rm s m args below meth c G cc nL own ret) {i : Nat} {n : String} {f : Nat → Int} (hs : zsta s G.2.2 n f) (hlink : (Cond.fieldLink own i RX6 n "[I").before args s = true ∨ (Cond.fieldLinkNest own i RX6 n "[I" RX6).before args s = true) (d : decode cc pc = .ok (.getstatic i, 3))
    (k : ∀ t : Nat, zsa s G.2.2 t f → Zq p l e Rm s m args below meth c G nL Q cells slots z K N I R (pc + 3) lv (.ref t :: st)) : Zq p l e Rm s m args below meth c G nL Q cells slots z K N I R pc lv st := fun H locs ls hW hL hl hd => by
  obtain ⟨t, hZ, cell, g1, g2, g3, g4, g5, g6⟩ := hs
  have ht : t < G.2.2.size := (Array.getElem?_eq_some_iff.mp g1).1
  have k1 := k t ⟨ht, cell, g1, g2, g3, g4, g5, g6⟩ H locs ls hW hL hl hd
  obtain ⟨cf, kf, fi, fl, a, cl, h1, h2, h3, h4, h5, h6, h7, h8⟩ := hZ
  have ha : a < G.2.2.size := (Array.getElem?_eq_some_iff.mp h5).1
  have hH : H[a]? = some cl := by rw [hW.2.2.1 a ha]; exact h5
  rcases hlink with hlink | hlink
  · exact W.gets C.1 C.2.1 C.2.2.2.1 hlink h1 h2 h3 h4 hH (fun e => by rw [e] at h6; cases h6) h7 rfl d k1
  · exact va_WgetsN C.1 C.2.1 C.2.2.2.1 hlink h1 h2 h3 h4 hH (fun e => by rw [e] at h6; cases h6) h7 rfl d k1
theorem z_sald (C : Cx p l e Rm s m args below meth c G cc nL own ret) {t : Nat} {j : Int} {f : Nat → Int} (hs : zsa s G.2.2 t f) (d : decode cc pc = .ok (.iaload, 1)) (hj : 0 ≤ j ∧ j < 3)
    (k : Zq p l e Rm s m args below meth c G nL Q cells slots z K N I R (pc + 1) lv (.int (zI (f j.toNat)) :: st)) : Zq p l e Rm s m args below meth c G nL Q cells slots z K N I R pc lv (.int (zI j) :: .ref t :: st) := fun H locs ls hW hL hl hd => by
  obtain ⟨ht, cell, g1, g2, g3, g4, g5, g6⟩ := hs
  obtain ⟨h1, h2⟩ := zI_idx (n := 3) hj.1 hj.2 (by omega)
  exact W.iald C.1 C.2.1 (by rw [hW.2.2.1 t ht]; exact g1) g3 (by rw [g2]; exact fun h => by cases h) (by rw [g5]; exact h1) (by rw [h2]; exact g6 _ (by omega)) rfl rfl d (k H locs ls hW hL hl hd)
/-- what clone() of an int array asks of the words -/
def zclw (own : String) (i : Nat) : List Cond := [.methodLink own i ⟨"[I", "clone", "()Ljava/lang/Object;"⟩, .sameMethod "[I" "java/lang/Object" "clone" "()Ljava/lang/Object;", .native ⟨"java/lang/Object", "clone", "()Ljava/lang/Object;"⟩, .instanceMethod ⟨"java/lang/Object", "clone", "()Ljava/lang/Object;"⟩, .selects "[I" ⟨"[I", "clone", "()Ljava/lang/Object;"⟩ ⟨"java/lang/Object", "clone", "()Ljava/lang/Object;"⟩]
theorem zclone (C : Cx p l e Rm s m args below meth c G cc nL own ret) {i t n : Nat} {H : Heap} {locs : List Loc} {ls : Array Slot} {f : Nat → Int} (hws : ∀ w ∈ zclw own i, w ∈ wsL_law) {cell : Cell} (hcell : H[t]? = some cell) (hvm : cell.vm = .none) (hnm : s.vm.findClass "[I" = some cell.cls) (hsz : cell.slots.size = n) (hrd : ∀ j : Nat, j < n → cell.slots[j]? = some (.int (zI (f j)))) (d : decode cc pc = .ok (.invokevirtual i, 3)) (hframes : 1 ≤ Rm.frames) (hlocals : (st.map fun v => v.category).sum + 14 ≤ Rm.locals) (hcells : cells + 1 ≤ Rm.cells) (hslots : slots + n ≤ Rm.slots)
    (hW : Wh G z K N I R H) (hL : ∀ q ∈ locs, G.2.2.size ≤ q.base) (hl : lv_has ls nL lv) (hd : lvd lv = true) (k : Zq p l e Rm s m args below meth c G nL Q (cells + 1) (slots + n) (z + 1) (va_up K z 9) (va_up N z n) (va_up I z f) R (pc + 3) lv (.ref z :: st)) : W p l e Rm s m args below meth c H locs cells slots Q (F0 m pc ls (.ref t :: st)) := by
  have hWv := C.2.2.2.2.2.2.2.1
  have hts := C.2.2.2.2.1
  obtain ⟨hAr, hRA⟩ := hWv.1.2 1 _ rfl
  have hcls : cell.cls = G.2.1 1 := Option.some.inj (hnm.symm.trans (va_nm_int hRA))
  obtain ⟨c0, t0, f1, f2, f3⟩ := Cond.castable_spec (va_Nw.use (A := args) rfl hWv.2.2.2.2.1)
  cases hnm.symm.trans f1
  intro T hT X
  have hcellT : T.heap[t]? = some cell := by rw [hT]; exact hcell
  obtain ⟨-, kA, hkA, comp, hkind⟩ := State.isArrayOf_alike X.warmed.alike (hAr 0 (fun _ => .null))
  obtain ⟨-, kS, hkS, compS, hkindS⟩ := hAr 0 (fun _ => .null)
  obtain ⟨vm', X', stp⟩ := X.cloneArray C.1 C.2.2.2.1 (hts _ (hws _ (List.mem_of_getElem? (i := 0) rfl))) (hts _ (hws _ (List.mem_of_getElem? (i := 1) rfl))) (hts _ (hws _ (List.mem_of_getElem? (i := 2) rfl))) (hts _ (hws _ (List.mem_of_getElem? (i := 3) rfl))) (hts _ (hws _ (List.mem_of_getElem? (i := 4) rfl))) (a := t) (cell := cell) hcellT (fun k h => by rw [hvm] at h; cases h) (by rw [hvm]; exact fun h => by cases h) hnm f2 f3
    (fun i v hv => by
      have hi : i < n := by rw [← hsz]; exact (Array.getElem?_eq_some_iff.mp hv).1
      cases hv.symm.trans (hrd i hi)
      have hk' : T.vm.classes[cell.cls]? = some kA := by rw [hcls]; exact hkA
      simp [State.fitsSlot, State.slotType?, hk', hkind, fits])
    (g := F0 m pc ls (.ref t :: st)) rfl (by rw [C.2.2.1]; exact hl.1) rfl (by rw [C.2.1]; exact d) hframes (by show 2 * 0 + _ + 14 ≤ _; omega) hcells (by rw [hsz]; exact hslots) (hloader := by rw [hcls]; exact Vm.clonesLoader_of_array hkS hkindS)
  have hce : ({ cls := cell.cls, slots := cell.slots } : Cell) = arrV (G.2.1 1) n (fun j => .int (zI (f j))) := by
    rw [hcls]
    unfold arrV
    congr 1
    apply Array.ext (by rw [hsz, Array.size_ofFn])
    intro i h1 h2
    have h3 := hrd i (by rw [← hsz]; exact h1)
    rw [Array.getElem?_eq_getElem h1] at h3
    rw [Array.getElem_ofFn]
    exact Option.some.inj h3
  rw [hce] at X' stp
  rw [hsz] at X'
  have z1 : (H.push (arrV (G.2.1 1) n (fun j => .int (zI (f j))))).size = H.size + 1 := by rw [Array.size_push]
  have e1 : (H.push (arrV (G.2.1 1) n (fun j => .int (zI (f j)))))[H.size]? = some (arrV (G.2.1 1) n (fun j => .int (zI (f j)))) := by rw [Array.getElem?_push_size]
  have o1 : ∀ q : Nat, q < H.size → (H.push (arrV (G.2.1 1) n (fun j => .int (zI (f j)))))[q]? = H[q]? := fun q hq => by rw [Array.getElem?_push, if_neg (Nat.ne_of_lt hq)]
  have hz : H.size = z := hW.1
  have hz2 : T.heap.size = z := by rw [hT]; exact hW.1
  rw [hz2] at stp
  obtain ⟨t9, b1, b2⟩ := k _ locs ls (hW.push z1 o1 (by
      rw [zat_i (va_up_s K z 9), va_up_s, va_up_s]
      show _ = some (vp_cell _ _)
      have e2 := e1
      rw [hz] at e2
      rw [vp_cell_i, e2]) fun b hb => ⟨va_up_n (Nat.ne_of_lt hb), va_up_n (Nat.ne_of_lt hb), va_up_n (Nat.ne_of_lt hb), rfl⟩) hL hl hd ((T.setVm vm').pushCell (arrV (G.2.1 1) n (fun j => .int (zI (f j))))) (by rw [← hT]; rfl) X'
  exact ⟨t9, stp t9 b1, b2⟩
theorem z_sclone (C : Cx p l e Rm s m args below meth c G cc nL own ret) {i t : Nat} {f : Nat → Int} (hs : zsa s G.2.2 t f) (hws : ∀ w ∈ zclw own i, w ∈ wsL_law) (d : decode cc pc = .ok (.invokevirtual i, 3)) (hframes : 1 ≤ Rm.frames) (hlocals : (st.map fun v => v.category).sum + 14 ≤ Rm.locals) (hcells : cells + 1 ≤ Rm.cells) (hslots : slots + 3 ≤ Rm.slots)
    (k : Zq p l e Rm s m args below meth c G nL Q (cells + 1) (slots + 3) (z + 1) (va_up K z 9) (va_up N z 3) (va_up I z f) R (pc + 3) lv (.ref z :: st)) : Zq p l e Rm s m args below meth c G nL Q cells slots z K N I R pc lv (.ref t :: st) := fun H locs ls hW hL hl hd => by
  obtain ⟨ht, cell, g1, g2, g3, g4, g5, g6⟩ := hs
  exact zclone C hws (by rw [hW.2.2.1 t ht]; exact g1) g2 g4 g5 g6 d hframes hlocals hcells hslots hW hL hl hd k
theorem z_clone (C : Cx p l e Rm s m args below meth c G cc nL own ret) {i a : Nat} (hws : ∀ w ∈ zclw own i, w ∈ wsL_law) (ha : zK G z K a 9) (d : decode cc pc = .ok (.invokevirtual i, 3)) (hframes : 1 ≤ Rm.frames) (hlocals : (st.map fun v => v.category).sum + 14 ≤ Rm.locals) (hcells : cells + 1 ≤ Rm.cells) (hslots : slots + N a ≤ Rm.slots)
    (k : Zq p l e Rm s m args below meth c G nL Q (cells + 1) (slots + N a) (z + 1) (va_up K z 9) (va_up N z (N a)) (va_up I z (I a)) R (pc + 3) lv (.ref z :: st)) : Zq p l e Rm s m args below meth c G nL Q cells slots z K N I R pc lv (.ref a :: st) := fun H locs ls hW hL hl hd => by
  exact zclone C hws (zwI hW ha) rfl (by rw [va_nm_int (C.2.2.2.2.2.2.2.1.1.2 1 _ rfl).2]; rfl) (by rw [vp_cell_i, arrV_size]) (fun j hj => by rw [vp_cell_i, arrV_read _ _ hj]) d hframes hlocals hcells hslots hW hL hl hd k
theorem z_castA (C : Cx p l e Rm s m args below meth c G cc nL own ret) {i a : Nat} (d : decode cc pc = .ok (.checkcast i, 3)) (hlink : Cond.classLink own i "[I" ∈ wsL_law) (ha : zK G z K a 9)
    (k : Zq p l e Rm s m args below meth c G nL Q cells slots z K N I R (pc + 3) lv (.ref a :: st)) : Zq p l e Rm s m args below meth c G nL Q cells slots z K N I R pc lv (.ref a :: st) := fun H locs ls hW hL hl hd =>
  va_castA (D := G.1) (cl := vwCl) (ws := [(a, .inl (G.2.1 1, N a, .inl (fun j => zI (I a j))))]) C.1 C.2.1 C.2.2.2.1 (C.2.2.2.2.1 _ hlink) (va_P1 (zwI hW ha)) 0 rfl (va_nm_int (C.2.2.2.2.2.2.2.1.1.2 1 _ rfl).2) d (k H locs ls hW hL hl hd)
def zcpy (f g : Nat → Int) (sp dp n : Nat) : Nat → Int := fun k => if dp ≤ k ∧ k < dp + n then f (sp + (k - dp)) else g k
theorem z_acopy (C : Cx p l e Rm s m args below meth c G cc nL own ret) {i a b : Nat} {sp dp n : Int} (hlink : Cond.methodLink own i arraycopyName ∈ wsL_law) (hnat : Cond.native arraycopyName ∈ wsL_law) (hstat : Cond.static arraycopyName ∈ wsL_law) (hini : Cond.initialized "java/lang/System" ∈ wsL_law) (ha : zK G z K a 9) (hb : zK G z K b 9) (h1 : 0 ≤ sp ∧ 0 ≤ dp ∧ 0 ≤ n) (h4 : sp + n ≤ (N a : Int)) (h5 : dp + n ≤ (N b : Int)) (hNa : N a < 2147483648) (hNb : N b < 2147483648) (hframes : 1 ≤ Rm.frames) (hlocals : (st.map fun v => v.category).sum + (nativeFrameWords "java/lang/System" "arraycopy" 5 + 11) ≤ Rm.locals) (d : decode cc pc = .ok (.invokestatic i, 3))
    (k : Zq p l e Rm s m args below meth c G nL Q cells slots z K N (va_up I b (zcpy (I a) (I b) sp.toNat dp.toNat n.toNat)) R (pc + 3) lv st) : Zq p l e Rm s m args below meth c G nL Q cells slots z K N I R pc lv (.int (zI n) :: .int (zI dp) :: .ref b :: .int (zI sp) :: .ref a :: st) := fun H locs ls hW hL hl hd => by
  obtain ⟨s1, s2⟩ := zI_clamp h1.1 (by omega)
  obtain ⟨d1, d2⟩ := zI_clamp h1.2.1 (by omega)
  obtain ⟨n1, n2⟩ := zI_clamp h1.2.2 (by omega)
  have is : (zI sp).toInt = (sp.toNat : Int) := by rw [zI_int ⟨by omega, by omega⟩]; omega
  have id1 : (zI dp).toInt = (dp.toNat : Int) := by rw [zI_int ⟨by omega, by omega⟩]; omega
  have in1 : (zI n).toInt = (n.toNat : Int) := by rw [zI_int ⟨by omega, by omega⟩]; omega
  have hts := C.2.2.2.2.1
  have hc0 := zwI hW ha
  have hc1 := zwI hW hb
  intro T hT X
  obtain ⟨-, k0, hk0, cm0, hkk0⟩ := (C.2.2.2.2.2.2.2.1.1.2 1 _ rfl).1 (N a) (fun j => .int (zI (I a j)))
  obtain ⟨-, k1, hk1, cm1, hkk1⟩ := (C.2.2.2.2.2.2.2.1.1.2 1 _ rfl).1 (N b) (fun j => .int (zI (I b j)))
  obtain ⟨vm', X', step⟩ := X.arraycopy C.1 C.2.2.2.1 (hts _ hlink) (hts _ hnat) (hts _ hstat) (hts _ hini) (src := a) (dst := b) (cs := vp_cell (G.2.1 1) (N a, .inl (fun j => zI (I a j)))) (cd := vp_cell (G.2.1 1) (N b, .inl (fun j => zI (I b j)))) (srcPos := zI sp) (destPos := zI dp) (n := zI n) (by rw [hT]; exact hc0) (by rw [hT]; exact hc1)
    (fun _ h => by cases h) (fun _ h => by cases h) (fun h => by cases h) (fun h => by cases h) hk0 hk1 hkk0 hkk1 (by simp [refKind]) s2 d2 n2
    (by rw [is, in1]; show ¬ _ > ((arrV (G.2.1 1) (N a) (fun j => .int (zI (I a j)))).slots.size : Int); rw [arrV_size]; omega)
    (by rw [id1, in1]; show ¬ _ > ((arrV (G.2.1 1) (N b) (fun j => .int (zI (I b j)))).slots.size : Int); rw [arrV_size]; omega)
    (fun vm₁ _ i hi => by
      rw [n1] at hi
      have e : (vp_cell (G.2.1 1) (N a, .inl (fun j => zI (I a j)))).slots.getD ((zI sp).toNatClampNeg + i) .null = .int (zI (I a (sp.toNat + i))) := by
        show (arrV (G.2.1 1) (N a) (fun j => .int (zI (I a j)))).slots.getD _ _ = _
        rw [Array.getD_eq_getD_getElem?, arrV_read _ _ (by rw [s1]; omega), s1]
        rfl
      refine ⟨?_, ?_⟩
      · rw [e]
        rfl
      · rw [e]
        exact trivial)
    (g := F0 m pc ls (.int (zI n) :: .int (zI dp) :: .ref b :: .int (zI sp) :: .ref a :: st)) rfl (by rw [C.2.2.1]; exact hl.1) (rest := st) rfl (by rw [C.2.1]; exact d) hframes (by show 2 * 0 + _ + _ ≤ _; omega)
  have e1 : copied (vp_cell (G.2.1 1) (N a, .inl (fun j => zI (I a j)))) (vp_cell (G.2.1 1) (N b, .inl (fun j => zI (I b j)))) (zI sp) (zI dp) (zI n) = vp_cell (G.2.1 1) (N b, .inl (va_cpy (fun j => zI (I a j)) (fun j => zI (I b j)) (zI sp).toNatClampNeg (zI dp).toNatClampNeg (zI n).toNatClampNeg)) := va_copied (fun z => .int z) (G.2.1 1) (G.2.1 1) (fun j => zI (I a j)) (fun j => zI (I b j)) (by rw [s1, n1]; omega)
  have e2 : vp_cell (G.2.1 1) (N b, .inl (va_cpy (fun j => zI (I a j)) (fun j => zI (I b j)) (zI sp).toNatClampNeg (zI dp).toNatClampNeg (zI n).toNatClampNeg)) = vp_cell (G.2.1 1) (N b, .inl (fun j => zI (zcpy (I a) (I b) sp.toNat dp.toNat n.toNat j))) := by
    rw [s1, d1, n1]
    congr 2
    congr 1
    funext q
    simp only [va_cpy, zcpy]
    split <;> rfl
  rw [e1, e2] at X' step
  have hlt : b < H.size := (Array.getElem?_eq_some_iff.mp hc1).1
  obtain ⟨t, a1, b1⟩ := k (H.setIfInBounds b (vp_cell (G.2.1 1) (N b, .inl (fun j => zI (zcpy (I a) (I b) sp.toNat dp.toNat n.toNat j))))) _ ls (hW.upd hb.1 (by simp) (fun q hq => by simp [Array.getElem?_setIfInBounds, Ne.symm hq]) (by
      rw [zat_i hb.2.2, va_up_s]
      show (H.setIfInBounds b _)[b]? = some (vp_cell _ _)
      simp [Array.getElem?_setIfInBounds, hlt]) fun q hq => ⟨va_up_n hq, rfl⟩) (fun q hq => by
      rcases List.mem_append.mp hq with h | h
      · exact hL q h
      · obtain ⟨y, -, hy⟩ := List.mem_map.mp h
        rw [← hy]
        exact hb.1) hl hd _ (by rw [← hT]; rfl) X'
  exact ⟨t, step t a1, b1⟩
theorem z_abs (C : Cx p l e Rm s m args below meth c G cc nL own ret) {i : Nat} {x : Int} (hlink : Cond.methodLink own i Lib.Math.abs.name ∈ wsL_law) (hstat : Cond.static Lib.Math.abs.name ∈ wsL_law) (hini : Cond.initialized "java/lang/Math" ∈ wsL_law) (hcode : Cond.code Lib.Math.abs.name Lib.Math.abs.code 1 (some .int) ∈ wsL_law) (hframes : 1 ≤ Rm.frames) (hlocals : (st.map fun v => v.category).sum + 13 ≤ Rm.locals) (hc : cells ≤ Rm.cells) (hs : slots ≤ Rm.slots) (d : decode cc pc = .ok (.invokestatic i, 3)) (hx : -2147483647 ≤ x ∧ x < 2147483648)
    (k : Zq p l e Rm s m args below meth c G nL Q cells slots z K N I R (pc + 3) lv (.int (zI (if 0 ≤ x then x else -x)) :: st)) : Zq p l e Rm s m args below meth c G nL Q cells slots z K N I R pc lv (.int (zI x) :: st) := fun H locs ls hW hL hl hd => by
  have hts := C.2.2.2.2.1
  refine va_mabs C.1 C.2.1 (by rw [C.2.2.1]; exact hl.1.symm) C.2.2.2.1 (hts _ hlink) (hts _ hstat) (hts _ hini) (hts _ hcode) hframes hlocals hc hs d ?_
  have e : (if 0 ≤ zI x then zI x else 0 - zI x) = zI (if 0 ≤ x then x else -x) := by
    have h1 : 0 ≤ zI x ↔ 0 ≤ x := by rw [zI_0]; exact zI_le ⟨by omega, by omega⟩ ⟨by omega, by omega⟩
    by_cases h : 0 ≤ x
    · rw [if_pos h, if_pos (h1.mpr h)]
    · rw [if_neg h, if_neg (fun q => h (h1.mp q)), zI_0, zI_sub]
      congr 1; omega
  rw [e]
  exact k H locs ls hW hL hl hd
theorem z_min (C : Cx p l e Rm s m args below meth c G cc nL own ret) {i : Nat} {x y : Int} (hlink : Cond.methodLink own i Lib.Math.min.name ∈ wsL_law) (hstat : Cond.static Lib.Math.min.name ∈ wsL_law) (hini : Cond.initialized "java/lang/Math" ∈ wsL_law) (hcode : Cond.code Lib.Math.min.name Lib.Math.min.code 2 (some .int) ∈ wsL_law) (hframes : 1 ≤ Rm.frames) (hlocals : (st.map fun v => v.category).sum + 13 ≤ Rm.locals) (hc : cells ≤ Rm.cells) (hs : slots ≤ Rm.slots) (d : decode cc pc = .ok (.invokestatic i, 3)) (hx : -2147483648 ≤ x ∧ x < 2147483648) (hy : -2147483648 ≤ y ∧ y < 2147483648)
    (k : Zq p l e Rm s m args below meth c G nL Q cells slots z K N I R (pc + 3) lv (.int (zI (if y < x then y else x)) :: st)) : Zq p l e Rm s m args below meth c G nL Q cells slots z K N I R pc lv (.int (zI y) :: .int (zI x) :: st) := fun H locs ls hW hL hl hd => by
  have hts := C.2.2.2.2.1
  refine va_mmin C.1 C.2.1 (by rw [C.2.2.1]; exact hl.1.symm) C.2.2.2.1 (hts _ hlink) (hts _ hstat) (hts _ hini) (hts _ hcode) hframes hlocals hc hs d ?_
  have e : (if zI y < zI x then zI y else zI x) = zI (if y < x then y else x) := by
    by_cases h : y < x
    · rw [if_pos h, if_pos ((zI_lt hy hx).mpr h)]
    · rw [if_neg h, if_neg (fun q => h ((zI_lt hy hx).mp q))]
  rw [e]
  exact k H locs ls hW hL hl hd
theorem z_objInit (C : Cx p l e Rm s m args below meth c G cc nL own ret) {i a : Nat} (hlink : Cond.methodLink own i objectInit ∈ wsL_law) (hinst : Cond.instanceMethod objectInit ∈ wsL_law) (hcode : Cond.code objectInit ⟨#[0xb1]⟩ 1 none ∈ wsL_law) (d : decode cc pc = .ok (.invokespecial i, 3)) (hframes : 1 ≤ Rm.frames) (hlocals : (st.map fun v => v.category).sum + 12 ≤ Rm.locals)
    (k : Zq p l e Rm s m args below meth c G nL Q cells slots z K N I R (pc + 3) lv st) : Zq p l e Rm s m args below meth c G nL Q cells slots z K N I R pc lv (.ref a :: st) := fun H locs ls hW hL hl hd =>
  W.objInit C.1 C.2.1 C.2.2.2.1 (C.2.2.2.2.1 _ hlink) (C.2.2.2.2.1 _ hinst) (C.2.2.2.2.1 _ hcode) rfl (by rw [C.2.2.1]; exact hl.1) rfl d hframes (by show 2 * 0 + _ + 12 ≤ _; omega) (k H locs ls hW hL hl hd)
theorem z_ialdk (C : Cx p l e Rm s m args below meth c G cc nL own ret) {a : Nat} {j : Int} (k : Nat) (d : decode cc pc = .ok (.iaload, 1)) (ha : zK G z K a 9) (hk : j = (k : Int)) (hj : k < N a) (hN : N a < 2147483648)
    (k0 : Zq p l e Rm s m args below meth c G nL Q cells slots z K N I R (pc + 1) lv (.int (zI (I a k)) :: st)) : Zq p l e Rm s m args below meth c G nL Q cells slots z K N I R pc lv (.int (zI j) :: .ref a :: st) := by subst hk; exact z_iald C d ha ⟨by omega, by omega⟩ hN k0
theorem z_caldk (C : Cx p l e Rm s m args below meth c G cc nL own ret) {a : Nat} {j : Int} (k : Nat) (d : decode cc pc = .ok (.caload, 1)) (ha : zK G z K a 8) (hk : j = (k : Int)) (hj : k < N a) (hN : N a < 2147483648)
    (k0 : Zq p l e Rm s m args below meth c G nL Q cells slots z K N I R (pc + 1) lv (.int (zI (I a k)) :: st)) : Zq p l e Rm s m args below meth c G nL Q cells slots z K N I R pc lv (.int (zI j) :: .ref a :: st) := by subst hk; exact z_cald C d ha ⟨by omega, by omega⟩ hN k0
theorem z_aaldk (C : Cx p l e Rm s m args below meth c G cc nL own ret) {a : Nat} {j : Int} (k : Nat) (kd : Nat) (hkd : kd = 10 ∨ kd = 11) (d : decode cc pc = .ok (.aaload, 1)) (ha : zK G z K a kd) (hk : j = (k : Int)) (hj : k < N a) (hN : N a < 2147483648)
    (k0 : Zq p l e Rm s m args below meth c G nL Q cells slots z K N I R (pc + 1) lv (va_rf (R a k) :: st)) : Zq p l e Rm s m args below meth c G nL Q cells slots z K N I R pc lv (.int (zI j) :: .ref a :: st) := by subst hk; exact z_aald C kd hkd d ha ⟨by omega, by omega⟩ hN k0
theorem z_iastk (C : Cx p l e Rm s m args below meth c G cc nL own ret) {a : Nat} {j : Int} (k : Nat) {v : Int} (d : decode cc pc = .ok (.iastore, 1)) (ha : zK G z K a 9) (hk : j = (k : Int)) (hj : k < N a) (hN : N a < 2147483648)
    (k0 : Zq p l e Rm s m args below meth c G nL Q cells slots z K N (u2 I a k v) R (pc + 1) lv st) : Zq p l e Rm s m args below meth c G nL Q cells slots z K N I R pc lv (.int (zI v) :: .int (zI j) :: .ref a :: st) := by subst hk; exact z_iast C d ha ⟨by omega, by omega⟩ hN k0
theorem z_castk (C : Cx p l e Rm s m args below meth c G cc nL own ret) {a : Nat} {j : Int} (k : Nat) {v : Int} (d : decode cc pc = .ok (.castore, 1)) (ha : zK G z K a 8) (hk : j = (k : Int)) (hj : k < N a) (hN : N a < 2147483648) (hv : 0 ≤ v ∧ v < 65536)
    (k0 : Zq p l e Rm s m args below meth c G nL Q cells slots z K N (u2 I a k v) R (pc + 1) lv st) : Zq p l e Rm s m args below meth c G nL Q cells slots z K N I R pc lv (.int (zI v) :: .int (zI j) :: .ref a :: st) := by subst hk; exact z_cast C d ha ⟨by omega, by omega⟩ hN hv k0
theorem z_after (C : Cx p l e Rm s m args below meth c G cc nL own ret) {st0 : List Value} {mc ms : Nat} {a0 : Array Value} {P : Option Value → Nat → (Nat → Nat) → (Nat → Nat) → MI → MR → Prop} {H : Heap} {locs : List Loc} {ls : Array Slot}
    (hr : va_Run p l e Rm s m args below meth c H locs cells slots mc ms (F0 m pc ls st0) st ((fun (_ : Array Value) (_ : State) (oc : Outcome) (t : State) => ∃ (r : Option Value) (z' : Nat) (K' N' : Nat → Nat) (I' : MI) (R' : MR), oc = .returned r ∧ P r z' K' N' I' R' ∧ Wh G z' K' N' I' R' t.heap) a0) (fun q => G.2.2.size ≤ q))
    (hL : ∀ q ∈ locs, G.2.2.size ≤ q.base) (hl : lv_has ls nL lv) (hd : lvd lv = true)
    (kk : ∀ (r : Option Value) (z' : Nat) (K' N' : Nat → Nat) (I' : MI) (R' : MR), P r z' K' N' I' R' → Zq p l e Rm s m args below meth c G nL Q (cells + mc) (slots + ms) z' K' N' I' R' (pc + 3) lv (zpush r st)) : W p l e Rm s m args below meth c H locs cells slots Q (F0 m pc ls st0) := by
  intro T hT X
  obtain ⟨v, st₀, t, T', L, h0, X', hL', e1, e2, ⟨r, z', K', N', I', R', hv, hp, hb⟩, stp⟩ := hr T hT X
  cases hv
  obtain ⟨t2, a1, b1⟩ := kk v z' K' N' I' R' hp T'.heap (locs ++ L) ls (by rw [e1]; exact hb) (fun q hq => by
      rcases List.mem_append.mp hq with h | h
      · exact hL q h
      · exact hL' q h) hl hd T' rfl X'
  rw [zpush_eq] at a1
  exact ⟨t2, stp t2 a1, b1⟩
theorem zblind {av : List Value} : FrameBlind (va_Pc av (fun U => Wv G U ∧ Wh G z K N I R U.heap)) := fun _ _ _ _ h => ⟨h.1, h.2.1.calling, h.2.2⟩
theorem zpre (C : Cx p l e Rm s m args below meth c G cc nL own ret) {av : List Value} {H : Heap} (hW : Wh G z K N I R H) : ∀ U : State, U.heap = H → s.WarmedH U.vm → (va_Pc av (fun U => Wv G U ∧ Wh G z K N I R U.heap)) av.toArray U := fun U hU hw => ⟨rfl, C.2.2.2.2.2.2.2.1.warm hw, by rw [hU]; exact hW⟩
theorem zfix (C : Cx p l e Rm s m args below meth c G cc nL own ret) : CallFix p m c cc nL s args wsL_law own := ⟨C.1, C.2.1, C.2.2.1, C.2.2.2.1, C.2.2.2.2.1⟩

theorem z_callV (C : Cx p l e Rm s m args below meth c G cc nL own ret) {st0 : List Value} {y : MethodName} {bytes : ByteArray} {maxL mc ms n i : Nat} {rt : Option FieldType} {ws : List Cond} {rm : Room} {As : List Value} {P : Option Value → Nat → (Nat → Nat) → (Nat → Nat) → MI → MR → Prop} {ci b N0 : Nat} {C0 : String} {T0 : u_T} (hc : vwCl[ci]? = some (C0, T0, N0)) (h8 : ci < 8) (hb : zK G z K b ci) (hC : Con l G y ws rm mc ms (.ref b :: As) z K N I R P) (cw : CallW Rm s args own C0 i y bytes maxL rt ws rm mc ms n) (hn : As.length = n) (hst : st0 = zst (.ref b :: As) st) (hWd : (st.map fun v => v.category).sum ≤ 8) (d : decode cc pc = .ok (.invokevirtual i, 3)) (hf : cells + mc ≤ Rm.cells ∧ slots + ms ≤ Rm.slots)
    (kk : ∀ (r : Option Value) (z' : Nat) (K' N' : Nat → Nat) (I' : MI) (R' : MR), P r z' K' N' I' R' → Zq p l e Rm s m args below meth c G nL Q (cells + mc) (slots + ms) z' K' N' I' R' (pc + 3) lv (zpush r st)) : Zq p l e Rm s m args below meth c G nL Q cells slots z K N I R pc lv st0 := fun H locs ls hW hL hl hd => by
  have hst2 : st0 = As.reverse ++ .ref b :: st := by rw [hst, zst_eq]; simp
  exact z_after C (a0 := (Value.ref b :: As).toArray) (va_runV (zfix C) hC cw ⟨zblind, (by
      have h := hW.2.2.2 b hb.1 hb.2.1
      rw [zat_o hb.2.2 h8] at h
      exact va_recv (ws := [(b, .inr (ci, zfs ci I R b))]) (q0 := 0) C.2.2.2.2.2.2.2.1.1 (va_P1 h) hc rfl), zpre C hW⟩ rfl hn hl.1 hst2 (lv_room hWd) d hf) hL hl hd kk
theorem z_callVd (C : Cx p l e Rm s m args below meth c G cc nL own ret) {st0 : List Value} {y : MethodName} {bytes : ByteArray} {maxL n i : Nat} {rt : Option FieldType} {ws : List Cond} {rm : Room} {As : List Value}  {ci b N0 : Nat} {C0 : String} {T0 : u_T} (hc : vwCl[ci]? = some (C0, T0, N0)) (h8 : ci < 8) (hb : zK G z K b ci) {r0 : Option Value} {I0 : MI} {R0 : MR} (hC : Cod l G y ws rm (.ref b :: As) z K N I R r0 I0 R0) (cw : CallW Rm s args own C0 i y bytes maxL rt ws rm 0 0 n) (hn : As.length = n) (hst : st0 = zst (.ref b :: As) st) (hWd : (st.map fun v => v.category).sum ≤ 8) (d : decode cc pc = .ok (.invokevirtual i, 3)) (hf : cells ≤ Rm.cells ∧ slots ≤ Rm.slots)
    (k : Zq p l e Rm s m args below meth c G nL Q cells slots z K N I0 R0 (pc + 3) lv (zpush r0 st)) : Zq p l e Rm s m args below meth c G nL Q cells slots z K N I R pc lv st0 :=
  z_callV C hc h8 hb hC cw hn hst hWd d hf fun r z' K' N' I' R' ⟨e1, e2, e3, e4, e5, e6⟩ => by
    subst e1; subst e2; subst e3; subst e4; subst e5; subst e6; exact k
theorem z_callS (C : Cx p l e Rm s m args below meth c G cc nL own ret) {st0 : List Value} {y : MethodName} {bytes : ByteArray} {maxL mc ms n i : Nat} {rt : Option FieldType} {ws : List Cond} {rm : Room} {As : List Value} {P : Option Value → Nat → (Nat → Nat) → (Nat → Nat) → MI → MR → Prop} (hC : Con l G y ws rm mc ms As z K N I R P) (cw : CallB Rm s args own i y bytes maxL rt ws rm mc ms n ∧ (Cond.static y).before args s = true) (hn : As.length = n) (hst : st0 = zst As st) (hWd : (st.map fun v => v.category).sum ≤ 8) (d : decode cc pc = .ok (.invokestatic i, 3)) (hf : cells + mc ≤ Rm.cells ∧ slots + ms ≤ Rm.slots)
    (kk : ∀ (r : Option Value) (z' : Nat) (K' N' : Nat → Nat) (I' : MI) (R' : MR), P r z' K' N' I' R' → Zq p l e Rm s m args below meth c G nL Q (cells + mc) (slots + ms) z' K' N' I' R' (pc + 3) lv (zpush r st)) : Zq p l e Rm s m args below meth c G nL Q cells slots z K N I R pc lv st0 := fun H locs ls hW hL hl hd => by
  have hst2 : st0 = As.reverse ++ st := by rw [hst, zst_eq]
  exact z_after C (a0 := (As).toArray) (va_runS (zfix C) hC cw ⟨zblind, zpre C hW⟩ rfl hn hl.1 hst2 (lv_room hWd) d hf) hL hl hd kk
theorem z_callSd (C : Cx p l e Rm s m args below meth c G cc nL own ret) {st0 : List Value} {y : MethodName} {bytes : ByteArray} {maxL n i : Nat} {rt : Option FieldType} {ws : List Cond} {rm : Room} {As : List Value}  {r0 : Option Value} {I0 : MI} {R0 : MR} (hC : Cod l G y ws rm As z K N I R r0 I0 R0) (cw : CallB Rm s args own i y bytes maxL rt ws rm 0 0 n ∧ (Cond.static y).before args s = true) (hn : As.length = n) (hst : st0 = zst As st) (hWd : (st.map fun v => v.category).sum ≤ 8) (d : decode cc pc = .ok (.invokestatic i, 3)) (hf : cells ≤ Rm.cells ∧ slots ≤ Rm.slots)
    (k : Zq p l e Rm s m args below meth c G nL Q cells slots z K N I0 R0 (pc + 3) lv (zpush r0 st)) : Zq p l e Rm s m args below meth c G nL Q cells slots z K N I R pc lv st0 :=
  z_callS C hC cw hn hst hWd d hf fun r z' K' N' I' R' ⟨e1, e2, e3, e4, e5, e6⟩ => by
    subst e1; subst e2; subst e3; subst e4; subst e5; subst e6; exact k
theorem z_callI (C : Cx p l e Rm s m args below meth c G cc nL own ret) {st0 : List Value} {y : MethodName} {bytes : ByteArray} {maxL mc ms n i : Nat} {ws : List Cond} {rm : Room} {As : List Value} {P : Option Value → Nat → (Nat → Nat) → (Nat → Nat) → MI → MR → Prop} {b : Nat} (hC : Con l G y ws rm mc ms (.ref b :: As) z K N I R P) (cw : CallB Rm s args own i y bytes maxL none ws rm mc ms n ∧ y.name = "<init>" ∧ (Cond.instanceMethod y).before args s = true) (hn : As.length = n) (hst : st0 = zst (.ref b :: As) st) (hWd : (st.map fun v => v.category).sum ≤ 8) (d : decode cc pc = .ok (.invokespecial i, 3)) (hf : cells + mc ≤ Rm.cells ∧ slots + ms ≤ Rm.slots)
    (kk : ∀ (r : Option Value) (z' : Nat) (K' N' : Nat → Nat) (I' : MI) (R' : MR), P r z' K' N' I' R' → Zq p l e Rm s m args below meth c G nL Q (cells + mc) (slots + ms) z' K' N' I' R' (pc + 3) lv (zpush r st)) : Zq p l e Rm s m args below meth c G nL Q cells slots z K N I R pc lv st0 := fun H locs ls hW hL hl hd => by
  have hst2 : st0 = As.reverse ++ .ref b :: st := by rw [hst, zst_eq]; simp
  exact z_after C (a0 := (Value.ref b :: As).toArray) (va_runI (zfix C) hC cw ⟨zblind, zpre C hW⟩ rfl hn hl.1 hst2 (lv_room hWd) d hf) hL hl hd kk
theorem z_callId (C : Cx p l e Rm s m args below meth c G cc nL own ret) {st0 : List Value} {y : MethodName} {bytes : ByteArray} {maxL n i : Nat} {ws : List Cond} {rm : Room} {As : List Value}  {b : Nat} {r0 : Option Value} {I0 : MI} {R0 : MR} (hC : Cod l G y ws rm (.ref b :: As) z K N I R r0 I0 R0) (cw : CallB Rm s args own i y bytes maxL none ws rm 0 0 n ∧ y.name = "<init>" ∧ (Cond.instanceMethod y).before args s = true) (hn : As.length = n) (hst : st0 = zst (.ref b :: As) st) (hWd : (st.map fun v => v.category).sum ≤ 8) (d : decode cc pc = .ok (.invokespecial i, 3)) (hf : cells ≤ Rm.cells ∧ slots ≤ Rm.slots)
    (k : Zq p l e Rm s m args below meth c G nL Q cells slots z K N I0 R0 (pc + 3) lv (zpush r0 st)) : Zq p l e Rm s m args below meth c G nL Q cells slots z K N I R pc lv st0 :=
  z_callI C hC cw hn hst hWd d hf fun r z' K' N' I' R' ⟨e1, e2, e3, e4, e5, e6⟩ => by
    subst e1; subst e2; subst e3; subst e4; subst e5; subst e6; exact k
theorem z_callSN (C : Cx p l e Rm s m args below meth c G cc nL own ret) {st0 : List Value} {y : MethodName} {bytes : ByteArray} {maxL mc ms n i : Nat} {rt : Option FieldType} {ws : List Cond} {rm : Room} {As : List Value} {P : Option Value → Nat → (Nat → Nat) → (Nat → Nat) → MI → MR → Prop} {host : String} (hC : Con l G y ws rm mc ms As z K N I R P) (cw : va_CN Rm s args own i y host bytes maxL rt ws rm mc ms n ∧ (Cond.static y).before args s = true ∧ True) (hn : As.length = n) (hst : st0 = zst As st) (hWd : (st.map fun v => v.category).sum ≤ 8) (d : decode cc pc = .ok (.invokestatic i, 3)) (hf : cells + mc ≤ Rm.cells ∧ slots + ms ≤ Rm.slots)
    (kk : ∀ (r : Option Value) (z' : Nat) (K' N' : Nat → Nat) (I' : MI) (R' : MR), P r z' K' N' I' R' → Zq p l e Rm s m args below meth c G nL Q (cells + mc) (slots + ms) z' K' N' I' R' (pc + 3) lv (zpush r st)) : Zq p l e Rm s m args below meth c G nL Q cells slots z K N I R pc lv st0 := fun H locs ls hW hL hl hd => by
  have hst2 : st0 = As.reverse ++ st := by rw [hst, zst_eq]
  exact z_after C (a0 := (As).toArray) (va_runSN (zfix C) hC cw ⟨zblind, zpre C hW⟩ rfl hn hl.1 hst2 (lv_room hWd) d hf) hL hl hd kk
theorem z_callSNd (C : Cx p l e Rm s m args below meth c G cc nL own ret) {st0 : List Value} {y : MethodName} {bytes : ByteArray} {maxL n i : Nat} {rt : Option FieldType} {ws : List Cond} {rm : Room} {As : List Value}  {host : String} {r0 : Option Value} {I0 : MI} {R0 : MR} (hC : Cod l G y ws rm As z K N I R r0 I0 R0) (cw : va_CN Rm s args own i y host bytes maxL rt ws rm 0 0 n ∧ (Cond.static y).before args s = true ∧ True) (hn : As.length = n) (hst : st0 = zst As st) (hWd : (st.map fun v => v.category).sum ≤ 8) (d : decode cc pc = .ok (.invokestatic i, 3)) (hf : cells ≤ Rm.cells ∧ slots ≤ Rm.slots)
    (k : Zq p l e Rm s m args below meth c G nL Q cells slots z K N I0 R0 (pc + 3) lv (zpush r0 st)) : Zq p l e Rm s m args below meth c G nL Q cells slots z K N I R pc lv st0 :=
  z_callSN C hC cw hn hst hWd d hf fun r z' K' N' I' R' ⟨e1, e2, e3, e4, e5, e6⟩ => by
    subst e1; subst e2; subst e3; subst e4; subst e5; subst e6; exact k
theorem z_callIN (C : Cx p l e Rm s m args below meth c G cc nL own ret) {st0 : List Value} {y : MethodName} {bytes : ByteArray} {maxL mc ms n i : Nat} {ws : List Cond} {rm : Room} {As : List Value} {P : Option Value → Nat → (Nat → Nat) → (Nat → Nat) → MI → MR → Prop} {host : String} {b : Nat} (hC : Con l G y ws rm mc ms (.ref b :: As) z K N I R P) (cw : va_CN Rm s args own i y host bytes maxL none ws rm mc ms n ∧ y.name = "<init>" ∧ (Cond.instanceMethod y).before args s = true) (hn : As.length = n) (hst : st0 = zst (.ref b :: As) st) (hWd : (st.map fun v => v.category).sum ≤ 8) (d : decode cc pc = .ok (.invokespecial i, 3)) (hf : cells + mc ≤ Rm.cells ∧ slots + ms ≤ Rm.slots)
    (kk : ∀ (r : Option Value) (z' : Nat) (K' N' : Nat → Nat) (I' : MI) (R' : MR), P r z' K' N' I' R' → Zq p l e Rm s m args below meth c G nL Q (cells + mc) (slots + ms) z' K' N' I' R' (pc + 3) lv (zpush r st)) : Zq p l e Rm s m args below meth c G nL Q cells slots z K N I R pc lv st0 := fun H locs ls hW hL hl hd => by
  have hst2 : st0 = As.reverse ++ .ref b :: st := by rw [hst, zst_eq]; simp
  exact z_after C (a0 := (Value.ref b :: As).toArray) (va_runIN (zfix C) hC cw ⟨zblind, zpre C hW⟩ rfl hn hl.1 hst2 (lv_room hWd) d hf) hL hl hd kk
theorem z_callINd (C : Cx p l e Rm s m args below meth c G cc nL own ret) {st0 : List Value} {y : MethodName} {bytes : ByteArray} {maxL n i : Nat} {ws : List Cond} {rm : Room} {As : List Value}  {host : String} {b : Nat} {r0 : Option Value} {I0 : MI} {R0 : MR} (hC : Cod l G y ws rm (.ref b :: As) z K N I R r0 I0 R0) (cw : va_CN Rm s args own i y host bytes maxL none ws rm 0 0 n ∧ y.name = "<init>" ∧ (Cond.instanceMethod y).before args s = true) (hn : As.length = n) (hst : st0 = zst (.ref b :: As) st) (hWd : (st.map fun v => v.category).sum ≤ 8) (d : decode cc pc = .ok (.invokespecial i, 3)) (hf : cells ≤ Rm.cells ∧ slots ≤ Rm.slots)
    (k : Zq p l e Rm s m args below meth c G nL Q cells slots z K N I0 R0 (pc + 3) lv (zpush r0 st)) : Zq p l e Rm s m args below meth c G nL Q cells slots z K N I R pc lv st0 :=
  z_callIN C hC cw hn hst hWd d hf fun r z' K' N' I' R' ⟨e1, e2, e3, e4, e5, e6⟩ => by
    subst e1; subst e2; subst e3; subst e4; subst e5; subst e6; exact k
theorem z_widen {k n : Nat} (h1 : cells ≤ k) (h2 : slots ≤ n) (kk : Zq p l e Rm s m args below meth c G nL Q k n z K N I R pc lv st) : Zq p l e Rm s m args below meth c G nL Q cells slots z K N I R pc lv st := fun H locs ls hW hL hl hd => W.widen h1 h2 (kk H locs ls hW hL hl hd)
abbrev zQ (p : Program) (l : Launch) (e : Env) (Rm : Room) (s : State) (m : MethodId) (args : Array Value) (below : List Frame) (meth : Method) (c : Code) (G : GG) (P : Option Value → Nat → (Nat → Nat) → (Nat → Nat) → MI → MR → Prop) (mc ms : Nat) : State → Prop := MQ below (fun _ _ oc t => ∃ (r : Option Value) (z' : Nat) (K' N' : Nat → Nat) (I' : MI) (R' : MR), oc = .returned r ∧ P r z' K' N' I' R' ∧ Wh G z' K' N' I' R' t.heap) args s mc ms (fun q => G.2.2.size ≤ q)
theorem z_iret (C : Cx p l e Rm s m args below meth c G cc nL own ret) {P : Option Value → Nat → (Nat → Nat) → (Nat → Nat) → MI → MR → Prop} {x : Int} (hr : ret = some .int) (d : decode cc pc = .ok (.ireturn, 1)) (hp : P (some (.int (zI x))) z K N I R) : Zq p l e Rm s m args below meth c G nL (zQ p l e Rm s m args below meth c G P cells slots) cells slots z K N I R pc lv [.int (zI x)] := fun H locs ls hW hL hl hd =>
  W.iret C.1 C.2.1 (by rw [C.2.2.2.2.2.2.1, hr]) (fun t ht _ => ⟨_, _, _, _, _, _, rfl, hp, by rw [ht]; exact hW⟩) hL d C.2.2.2.2.2.1
theorem z_zret (C : Cx p l e Rm s m args below meth c G cc nL own ret) {P : Option Value → Nat → (Nat → Nat) → (Nat → Nat) → MI → MR → Prop} {x : Int} (hr : ret = some .boolean) (hx : x = 0 ∨ x = 1) (d : decode cc pc = .ok (.ireturn, 1)) (hp : P (some (.int (zI x))) z K N I R) : Zq p l e Rm s m args below meth c G nL (zQ p l e Rm s m args below meth c G P cells slots) cells slots z K N I R pc lv [.int (zI x)] := fun H locs ls hW hL hl hd =>
  W.zret (ty := .boolean) C.1 C.2.1 (by rw [C.2.2.2.2.2.2.1, hr]) (by rcases hx with e | e <;> subst e <;> decide +kernel) (fun t ht _ => ⟨_, _, _, _, _, _, rfl, hp, by rw [ht]; exact hW⟩) hL d C.2.2.2.2.2.1
theorem z_vret (C : Cx p l e Rm s m args below meth c G cc nL own ret) {P : Option Value → Nat → (Nat → Nat) → (Nat → Nat) → MI → MR → Prop} (hr : ret = none) (d : decode cc pc = .ok (.return_, 1)) (hp : P none z K N I R) : Zq p l e Rm s m args below meth c G nL (zQ p l e Rm s m args below meth c G P cells slots) cells slots z K N I R pc lv [] := fun H locs ls hW hL hl hd =>
  W.vret C.1 C.2.1 (by rw [C.2.2.2.2.2.2.1, hr]) (fun t ht _ => ⟨_, _, _, _, _, _, rfl, hp, by rw [ht]; exact hW⟩) hL d C.2.2.2.2.2.1
theorem z_aret (C : Cx p l e Rm s m args below meth c G cc nL own ret) {P : Option Value → Nat → (Nat → Nat) → (Nat → Nat) → MI → MR → Prop} {rt : FieldType} {r : Option Nat} (hr : ret = some rt) (hrt : (∃ n, rt = .object n) ∨ ∃ t, rt = .array t) (d : decode cc pc = .ok (.areturn, 1)) (hp : P (some (va_rf r)) z K N I R) : Zq p l e Rm s m args below meth c G nL (zQ p l e Rm s m args below meth c G P cells slots) cells slots z K N I R pc lv [va_rf r] := fun H locs ls hW hL hl hd =>
  W.aret (rt := rt) C.1 C.2.1 (by rw [C.2.2.2.2.2.2.1, hr]) hrt (by cases r with | none => exact Or.inl rfl | some a => exact Or.inr ⟨a, rfl⟩) (fun t ht _ => ⟨_, _, _, _, _, _, rfl, hp, by rw [ht]; exact hW⟩) hL d C.2.2.2.2.2.1

theorem z_iret2 (C : Cx p l e Rm s m args below meth c G cc nL own ret) {P : Option Value → Nat → (Nat → Nat) → (Nat → Nat) → MI → MR → Prop} {x : Int} (hQ : Q = zQ p l e Rm s m args below meth c G P cells slots) (hr : ret = some .int) (d : decode cc pc = .ok (.ireturn, 1)) (hp : P (some (.int (zI x))) z K N I R) : Zq p l e Rm s m args below meth c G nL Q cells slots z K N I R pc lv [.int (zI x)] := by subst hQ; exact z_iret C hr d hp
theorem z_zret2 (C : Cx p l e Rm s m args below meth c G cc nL own ret) {P : Option Value → Nat → (Nat → Nat) → (Nat → Nat) → MI → MR → Prop} {x : Int} (hQ : Q = zQ p l e Rm s m args below meth c G P cells slots) (hr : ret = some .boolean) (hx : x = 0 ∨ x = 1) (d : decode cc pc = .ok (.ireturn, 1)) (hp : P (some (.int (zI x))) z K N I R) : Zq p l e Rm s m args below meth c G nL Q cells slots z K N I R pc lv [.int (zI x)] := by subst hQ; exact z_zret C hr hx d hp
theorem z_vret2 (C : Cx p l e Rm s m args below meth c G cc nL own ret) {P : Option Value → Nat → (Nat → Nat) → (Nat → Nat) → MI → MR → Prop} (hQ : Q = zQ p l e Rm s m args below meth c G P cells slots) (hr : ret = none) (d : decode cc pc = .ok (.return_, 1)) (hp : P none z K N I R) : Zq p l e Rm s m args below meth c G nL Q cells slots z K N I R pc lv [] := by subst hQ; exact z_vret C hr d hp
theorem z_aret2 (C : Cx p l e Rm s m args below meth c G cc nL own ret) {P : Option Value → Nat → (Nat → Nat) → (Nat → Nat) → MI → MR → Prop} {rt : FieldType} {r : Option Nat} (hQ : Q = zQ p l e Rm s m args below meth c G P cells slots) (hr : ret = some rt) (hrt : (∃ n, rt = .object n) ∨ ∃ t, rt = .array t) (d : decode cc pc = .ok (.areturn, 1)) (hp : P (some (va_rf r)) z K N I R) : Zq p l e Rm s m args below meth c G nL Q cells slots z K N I R pc lv [va_rf r] := by subst hQ; exact z_aret C hr hrt d hp
theorem z_conv {I' : MI} {R' : MR} {lv' : List (Nat × Value)} {st' : List Value} (h1 : I = I') (h2 : R = R') (h3 : lv = lv') (h4 : st = st') (k : Zq p l e Rm s m args below meth c G nL Q cells slots z K N I' R' pc lv' st') : Zq p l e Rm s m args below meth c G nL Q cells slots z K N I R pc lv st := by subst h1; subst h2; subst h3; subst h4; exact k
theorem znw {G : GG} (h : Wv G s) (i : Nat) {w : String × Nat × MethodName × String} (hw : znwM[i]? = some w) : va_Nw (.methodLinkNest w.1 w.2.1 w.2.2.1 w.2.2.2) s := h.2.2.2.1 w (List.mem_of_getElem? hw)
theorem zs_l : ∀ n : Fin 32, ((zI n.val &&& 31).toBitVec.smod 32).toNat = n.val := by decide +kernel
theorem zI_shr {x j : Int} (hj : 0 ≤ j ∧ j < 31) (hx : -2147483648 ≤ x ∧ x < 2147483648) : zI x >>> (zI j &&& 31) = zI (x / 2 ^ j.toNat) := by
  obtain ⟨n, rfl⟩ := Int.eq_ofNat_of_zero_le hj.1
  have h1 := pk_shr (zI x) (zI n &&& 31) n (zs_l ⟨n, by omega⟩)
  apply Int32.toInt_inj.mp
  rw [h1, zI_int hx, Int.shiftRight_eq_div_pow]
  have hp : (1 : Int) ≤ 2 ^ n := by exact_mod_cast Nat.one_le_two_pow
  have e : ((n : Int)).toNat = n := rfl
  rw [e]
  have h2 : ((2 ^ n : Nat) : Int) = 2 ^ n := by push_cast; rfl
  rw [h2, zI_int]
  refine ⟨?_, ?_⟩
  · have := Int.le_ediv_of_mul_le (a := -2147483648) (b := x) (c := 2 ^ n) (by omega) (by
      have : (-2147483648 : Int) * 2 ^ n ≤ -2147483648 * 1 := by
        exact Int.mul_le_mul_of_nonpos_left (by omega) hp
      omega)
    exact this
  · apply Int.ediv_lt_of_lt_mul (by omega)
    have : (2147483648 : Int) * 1 ≤ 2147483648 * 2 ^ n := Int.mul_le_mul_of_nonneg_left hp (by omega)
    omega
theorem zI_shl1 : ∀ n : Fin 31, zI 1 <<< (zI n.val &&& 31) = zI (2 ^ n.val) := by decide +kernel
theorem zI_shl {j : Int} (hj : 0 ≤ j ∧ j < 31) : zI 1 <<< (zI j &&& 31) = zI (2 ^ j.toNat) := by
  obtain ⟨n, rfl⟩ := Int.eq_ofNat_of_zero_le hj.1
  exact zI_shl1 ⟨n, by omega⟩
theorem zI_bv (x : Int) : (zI x).toBitVec = BitVec.ofInt 32 x := rfl
theorem zI_and1 (y : Int) : zI y &&& zI 1 = zI (y % 2) := by
  apply Int32.toBitVec_inj.mp
  rw [Int32.toBitVec_and, zI_bv, zI_bv, zI_bv]
  apply BitVec.eq_of_toNat_eq
  rw [BitVec.toNat_and, BitVec.toNat_ofInt, BitVec.toNat_ofInt, BitVec.toNat_ofInt]
  have e : ((1 : Int) % ((2 ^ 32 : Nat) : Int)).toNat = 1 := by decide +kernel
  rw [e, Nat.and_one_is_mod]
  have e2 : ((2 ^ 32 : Nat) : Int) = 4294967296 := by decide +kernel
  rw [e2]
  omega

/-- a contract, from the walk of the method's body -/
theorem Con.of {G : GG} {l : Launch} {y : MethodName} {own : String} {ws : List Cond} {rm : Room} {mc ms : Nat} {av : List Value} {z : Nat} {K N : Nat → Nat} {I : MI} {R : MR} {P : Option Value → Nat → (Nat → Nat) → (Nat → Nat) → MI → MR → Prop} {cc : ByteArray} {maxL : Nat} {ret : Option FieldType} (hy : plainName y.cls = true) (ho : y.cls = own) (hw : ws = Cond.code y cc maxL ret :: wsL_law) (hm : (lg_sl av).length ≤ maxL) (h16 : maxL < 2 ^ 16) (hd : lvd (lv_args 0 av) = true)
    (body : ∀ (p : Program) (e : Env) (s : State) (m : MethodId) (args : Array Value) (below : List Frame) (meth : Method) (c : Code) (Q : State → Prop), (y.name = "<init>" → meth.name = "<init>") → Q = zQ p l e rm s m args below meth c G P mc ms → Cx p l e rm s m args below meth c G cc maxL own ret → Zq p l e rm s m args below meth c G maxL Q 0 0 z K N I R 0 (lv_args 0 av) []) : Con l G y ws rm mc ms av z K N I R P := by
  refine Met.ofW (cc := cc) (maxL := maxL) (ret := ret) hy hw ?_
  intro p e s m args below meth c s₁ B hml hv
  obtain ⟨rfl, hWv, hWh⟩ := hv
  have hown : s.vm.findClass own = some m.cls := by rw [← ho]; exact findClass_of_methodNamed B.named
  have hts0 := atoms_spec (ws := ws) B.pre
  have hts : ∀ w ∈ wsL_law, w.before av.toArray s = true := fun w h => hts0 w (by rw [hw]; exact List.mem_cons_of_mem _ h)
  have hname := (name_of_methodNamed B.named B.method).1
  have hl := lv_entry av (n := maxL) hm
  rw [lg_entry_eq]
  exact body p e s m av.toArray below meth c _ (fun h => by rw [hname]; exact h) rfl ⟨B.exec, B.bytes, hml, hown, hts, B.notSynchronized, B.returns, hWv, h16⟩ s.heap [] _ hWh (fun q h => by cases h) hl hd
end ZR
end
section
theorem dX7_init_0 : decode cX7_init 0 = .ok (.aload_n 0, 1) := by decide +kernel
theorem dX7_init_1 : decode cX7_init 1 = .ok (.invokespecial 1, 3) := by decide +kernel
theorem dX7_init_4 : decode cX7_init 4 = .ok (.aload_n 0, 1) := by decide +kernel
theorem dX7_init_5 : decode cX7_init 5 = .ok (.sipush 236, 3) := by decide +kernel
theorem dX7_init_8 : decode cX7_init 8 = .ok (.newarray .int, 2) := by decide +kernel
theorem dX7_init_10 : decode cX7_init 10 = .ok (.putfield 7, 3) := by decide +kernel
theorem dX7_init_13 : decode cX7_init 13 = .ok (.aload_n 0, 1) := by decide +kernel
theorem dX7_init_14 : decode cX7_init 14 = .ok (.sipush 1416, 3) := by decide +kernel
theorem dX7_init_17 : decode cX7_init 17 = .ok (.newarray .int, 2) := by decide +kernel
theorem dX7_init_19 : decode cX7_init 19 = .ok (.putfield 13, 3) := by decide +kernel
theorem dX7_init_22 : decode cX7_init 22 = .ok (.aload_n 0, 1) := by decide +kernel
theorem dX7_init_23 : decode cX7_init 23 = .ok (.sipush 472, 3) := by decide +kernel
theorem dX7_init_26 : decode cX7_init 26 = .ok (.newarray .int, 2) := by decide +kernel
theorem dX7_init_28 : decode cX7_init 28 = .ok (.putfield 16, 3) := by decide +kernel
theorem dX7_init_31 : decode cX7_init 31 = .ok (.aload_n 0, 1) := by decide +kernel
theorem dX7_init_32 : decode cX7_init 32 = .ok (.iconst 2, 1) := by decide +kernel
theorem dX7_init_33 : decode cX7_init 33 = .ok (.newarray .int, 2) := by decide +kernel
theorem dX7_init_35 : decode cX7_init 35 = .ok (.putfield 19, 3) := by decide +kernel
theorem dX7_init_38 : decode cX7_init 38 = .ok (.aload_n 0, 1) := by decide +kernel
theorem dX7_init_39 : decode cX7_init 39 = .ok (.bipush 80, 2) := by decide +kernel
theorem dX7_init_41 : decode cX7_init 41 = .ok (.newarray .int, 2) := by decide +kernel
theorem dX7_init_43 : decode cX7_init 43 = .ok (.putfield 22, 3) := by decide +kernel
theorem dX7_init_46 : decode cX7_init 46 = .ok (.aload_n 0, 1) := by decide +kernel
theorem dX7_init_47 : decode cX7_init 47 = .ok (.bipush 14, 2) := by decide +kernel
theorem dX7_init_49 : decode cX7_init 49 = .ok (.newarray .int, 2) := by decide +kernel
theorem dX7_init_51 : decode cX7_init 51 = .ok (.putfield 25, 3) := by decide +kernel
theorem dX7_init_54 : decode cX7_init 54 = .ok (.aload_n 0, 1) := by decide +kernel
theorem dX7_init_55 : decode cX7_init 55 = .ok (.bipush 28, 2) := by decide +kernel
theorem dX7_init_57 : decode cX7_init 57 = .ok (.newarray .int, 2) := by decide +kernel
theorem dX7_init_59 : decode cX7_init 59 = .ok (.putfield 28, 3) := by decide +kernel
theorem dX7_init_62 : decode cX7_init 62 = .ok (.aload_n 0, 1) := by decide +kernel
theorem dX7_init_63 : decode cX7_init 63 = .ok (.getfield 7, 3) := by decide +kernel
theorem dX7_init_66 : decode cX7_init 66 = .ok (.iconst 0, 1) := by decide +kernel
theorem dX7_init_67 : decode cX7_init 67 = .ok (.iconst 4, 1) := by decide +kernel
theorem dX7_init_68 : decode cX7_init 68 = .ok (.iastore, 1) := by decide +kernel
theorem dX7_init_69 : decode cX7_init 69 = .ok (.aload_n 0, 1) := by decide +kernel
theorem dX7_init_70 : decode cX7_init 70 = .ok (.getfield 7, 3) := by decide +kernel
theorem dX7_init_73 : decode cX7_init 73 = .ok (.iconst 1, 1) := by decide +kernel
theorem dX7_init_74 : decode cX7_init 74 = .ok (.bipush 10, 2) := by decide +kernel
theorem dX7_init_76 : decode cX7_init 76 = .ok (.iastore, 1) := by decide +kernel
theorem dX7_init_77 : decode cX7_init 77 = .ok (.aload_n 0, 1) := by decide +kernel
theorem dX7_init_78 : decode cX7_init 78 = .ok (.getfield 7, 3) := by decide +kernel
theorem dX7_init_81 : decode cX7_init 81 = .ok (.iconst 2, 1) := by decide +kernel
theorem dX7_init_82 : decode cX7_init 82 = .ok (.bipush 50, 2) := by decide +kernel
theorem dX7_init_84 : decode cX7_init 84 = .ok (.iastore, 1) := by decide +kernel
theorem dX7_init_85 : decode cX7_init 85 = .ok (.return_, 1) := by decide +kernel
theorem dX7_moves_0 : decode cX7_moves 0 = .ok (.iconst 0, 1) := by decide +kernel
theorem dX7_moves_1 : decode cX7_moves 1 = .ok (.istore 4, 2) := by decide +kernel
theorem dX7_moves_3 : decode cX7_moves 3 = .ok (.iload 4, 2) := by decide +kernel
theorem dX7_moves_5 : decode cX7_moves 5 = .ok (.sipush 236, 3) := by decide +kernel
theorem dX7_moves_8 : decode cX7_moves 8 = .ok (.if_icmp .ge 21, 3) := by decide +kernel
theorem dX7_moves_11 : decode cX7_moves 11 = .ok (.aload_n 2, 1) := by decide +kernel
theorem dX7_moves_12 : decode cX7_moves 12 = .ok (.iload_n 3, 1) := by decide +kernel
theorem dX7_moves_13 : decode cX7_moves 13 = .ok (.iload 4, 2) := by decide +kernel
theorem dX7_moves_15 : decode cX7_moves 15 = .ok (.iadd, 1) := by decide +kernel
theorem dX7_moves_16 : decode cX7_moves 16 = .ok (.aload_n 0, 1) := by decide +kernel
theorem dX7_moves_17 : decode cX7_moves 17 = .ok (.iload_n 1, 1) := by decide +kernel
theorem dX7_moves_18 : decode cX7_moves 18 = .ok (.iload 4, 2) := by decide +kernel
theorem dX7_moves_20 : decode cX7_moves 20 = .ok (.iadd, 1) := by decide +kernel
theorem dX7_moves_21 : decode cX7_moves 21 = .ok (.iaload, 1) := by decide +kernel
theorem dX7_moves_22 : decode cX7_moves 22 = .ok (.iastore, 1) := by decide +kernel
theorem dX7_moves_23 : decode cX7_moves 23 = .ok (.iinc 4 1, 3) := by decide +kernel
theorem dX7_moves_26 : decode cX7_moves 26 = .ok (.goto (-23), 3) := by decide +kernel
theorem dX7_moves_29 : decode cX7_moves 29 = .ok (.return_, 1) := by decide +kernel
theorem dX7_within_0 : decode cX7_within 0 = .ok (.iload_n 0, 1) := by decide +kernel
theorem dX7_within_1 : decode cX7_within 1 = .ok (.iload_n 1, 1) := by decide +kernel
theorem dX7_within_2 : decode cX7_within 2 = .ok (.if_icmp .lt 12, 3) := by decide +kernel
theorem dX7_within_5 : decode cX7_within 5 = .ok (.iload_n 0, 1) := by decide +kernel
theorem dX7_within_6 : decode cX7_within 6 = .ok (.iload_n 2, 1) := by decide +kernel
theorem dX7_within_7 : decode cX7_within 7 = .ok (.if_icmp .gt 7, 3) := by decide +kernel
theorem dX7_within_10 : decode cX7_within 10 = .ok (.iconst 1, 1) := by decide +kernel
theorem dX7_within_11 : decode cX7_within 11 = .ok (.goto 4, 3) := by decide +kernel
theorem dX7_within_14 : decode cX7_within 14 = .ok (.iconst 0, 1) := by decide +kernel
theorem dX7_within_15 : decode cX7_within 15 = .ok (.ireturn, 1) := by decide +kernel
theorem dX7_size_0 : decode cX7_size 0 = .ok (.iload_n 0, 1) := by decide +kernel
theorem dX7_size_1 : decode cX7_size 1 = .ok (.ifCond .ge 8, 3) := by decide +kernel
theorem dX7_size_4 : decode cX7_size 4 = .ok (.iload_n 0, 1) := by decide +kernel
theorem dX7_size_5 : decode cX7_size 5 = .ok (.ineg, 1) := by decide +kernel
theorem dX7_size_6 : decode cX7_size 6 = .ok (.goto 4, 3) := by decide +kernel
theorem dX7_size_9 : decode cX7_size 9 = .ok (.iload_n 0, 1) := by decide +kernel
theorem dX7_size_10 : decode cX7_size 10 = .ok (.ireturn, 1) := by decide +kernel
theorem dX7_rounded_0 : decode cX7_rounded 0 = .ok (.iload_n 0, 1) := by decide +kernel
theorem dX7_rounded_1 : decode cX7_rounded 1 = .ok (.iload_n 1, 1) := by decide +kernel
theorem dX7_rounded_2 : decode cX7_rounded 2 = .ok (.idiv, 1) := by decide +kernel
theorem dX7_rounded_3 : decode cX7_rounded 3 = .ok (.iload_n 0, 1) := by decide +kernel
theorem dX7_rounded_4 : decode cX7_rounded 4 = .ok (.iload_n 1, 1) := by decide +kernel
theorem dX7_rounded_5 : decode cX7_rounded 5 = .ok (.irem, 1) := by decide +kernel
theorem dX7_rounded_6 : decode cX7_rounded 6 = .ok (.iload_n 1, 1) := by decide +kernel
theorem dX7_rounded_7 : decode cX7_rounded 7 = .ok (.iload_n 0, 1) := by decide +kernel
theorem dX7_rounded_8 : decode cX7_rounded 8 = .ok (.iload_n 1, 1) := by decide +kernel
theorem dX7_rounded_9 : decode cX7_rounded 9 = .ok (.irem, 1) := by decide +kernel
theorem dX7_rounded_10 : decode cX7_rounded 10 = .ok (.isub, 1) := by decide +kernel
theorem dX7_rounded_11 : decode cX7_rounded 11 = .ok (.if_icmp .lt 7, 3) := by decide +kernel
theorem dX7_rounded_14 : decode cX7_rounded 14 = .ok (.iconst 1, 1) := by decide +kernel
theorem dX7_rounded_15 : decode cX7_rounded 15 = .ok (.goto 4, 3) := by decide +kernel
theorem dX7_rounded_18 : decode cX7_rounded 18 = .ok (.iconst 0, 1) := by decide +kernel
theorem dX7_rounded_19 : decode cX7_rounded 19 = .ok (.iadd, 1) := by decide +kernel
theorem dX7_rounded_20 : decode cX7_rounded 20 = .ok (.ireturn, 1) := by decide +kernel
theorem dX7_record_0 : decode cX7_record 0 = .ok (.aload_n 0, 1) := by decide +kernel
theorem dX7_record_1 : decode cX7_record 1 = .ok (.getfield 31, 3) := by decide +kernel
theorem dX7_record_4 : decode cX7_record 4 = .ok (.bipush 6, 2) := by decide +kernel
theorem dX7_record_6 : decode cX7_record 6 = .ok (.if_icmp .ne 44, 3) := by decide +kernel
theorem dX7_record_9 : decode cX7_record 9 = .ok (.iconst 0, 1) := by decide +kernel
theorem dX7_record_10 : decode cX7_record 10 = .ok (.istore_n 1, 1) := by decide +kernel
theorem dX7_record_11 : decode cX7_record 11 = .ok (.iload_n 1, 1) := by decide +kernel
theorem dX7_record_12 : decode cX7_record 12 = .ok (.sipush 1180, 3) := by decide +kernel
theorem dX7_record_15 : decode cX7_record 15 = .ok (.if_icmp .ge 25, 3) := by decide +kernel
theorem dX7_record_18 : decode cX7_record 18 = .ok (.aload_n 0, 1) := by decide +kernel
theorem dX7_record_19 : decode cX7_record 19 = .ok (.getfield 13, 3) := by decide +kernel
theorem dX7_record_22 : decode cX7_record 22 = .ok (.iload_n 1, 1) := by decide +kernel
theorem dX7_record_23 : decode cX7_record 23 = .ok (.aload_n 0, 1) := by decide +kernel
theorem dX7_record_24 : decode cX7_record 24 = .ok (.getfield 13, 3) := by decide +kernel
theorem dX7_record_27 : decode cX7_record 27 = .ok (.iload_n 1, 1) := by decide +kernel
theorem dX7_record_28 : decode cX7_record 28 = .ok (.sipush 236, 3) := by decide +kernel
theorem dX7_record_31 : decode cX7_record 31 = .ok (.iadd, 1) := by decide +kernel
theorem dX7_record_32 : decode cX7_record 32 = .ok (.iaload, 1) := by decide +kernel
theorem dX7_record_33 : decode cX7_record 33 = .ok (.iastore, 1) := by decide +kernel
theorem dX7_record_34 : decode cX7_record 34 = .ok (.iinc 1 1, 3) := by decide +kernel
theorem dX7_record_37 : decode cX7_record 37 = .ok (.goto (-26), 3) := by decide +kernel
theorem dX7_record_40 : decode cX7_record 40 = .ok (.aload_n 0, 1) := by decide +kernel
theorem dX7_record_41 : decode cX7_record 41 = .ok (.dup, 1) := by decide +kernel
theorem dX7_record_42 : decode cX7_record 42 = .ok (.getfield 31, 3) := by decide +kernel
theorem dX7_record_45 : decode cX7_record 45 = .ok (.iconst 1, 1) := by decide +kernel
theorem dX7_record_46 : decode cX7_record 46 = .ok (.isub, 1) := by decide +kernel
theorem dX7_record_47 : decode cX7_record 47 = .ok (.putfield 31, 3) := by decide +kernel
theorem dX7_record_50 : decode cX7_record 50 = .ok (.aload_n 0, 1) := by decide +kernel
theorem dX7_record_51 : decode cX7_record 51 = .ok (.getfield 7, 3) := by decide +kernel
theorem dX7_record_54 : decode cX7_record 54 = .ok (.iconst 0, 1) := by decide +kernel
theorem dX7_record_55 : decode cX7_record 55 = .ok (.aload_n 0, 1) := by decide +kernel
theorem dX7_record_56 : decode cX7_record 56 = .ok (.getfield 13, 3) := by decide +kernel
theorem dX7_record_59 : decode cX7_record 59 = .ok (.aload_n 0, 1) := by decide +kernel
theorem dX7_record_60 : decode cX7_record 60 = .ok (.getfield 31, 3) := by decide +kernel
theorem dX7_record_63 : decode cX7_record 63 = .ok (.sipush 236, 3) := by decide +kernel
theorem dX7_record_66 : decode cX7_record 66 = .ok (.imul, 1) := by decide +kernel
theorem dX7_record_67 : decode cX7_record 67 = .ok (.invokestatic 35, 3) := by decide +kernel
theorem dX7_record_70 : decode cX7_record 70 = .ok (.aload_n 0, 1) := by decide +kernel
theorem dX7_record_71 : decode cX7_record 71 = .ok (.dup, 1) := by decide +kernel
theorem dX7_record_72 : decode cX7_record 72 = .ok (.getfield 31, 3) := by decide +kernel
theorem dX7_record_75 : decode cX7_record 75 = .ok (.iconst 1, 1) := by decide +kernel
theorem dX7_record_76 : decode cX7_record 76 = .ok (.iadd, 1) := by decide +kernel
theorem dX7_record_77 : decode cX7_record 77 = .ok (.putfield 31, 3) := by decide +kernel
theorem dX7_record_80 : decode cX7_record 80 = .ok (.return_, 1) := by decide +kernel
theorem dX7_isRing_0 : decode cX7_isRing 0 = .ok (.iload_n 1, 1) := by decide +kernel
theorem dX7_isRing_1 : decode cX7_isRing 1 = .ok (.iconst 0, 1) := by decide +kernel
theorem dX7_isRing_2 : decode cX7_isRing 2 = .ok (.aload_n 0, 1) := by decide +kernel
theorem dX7_isRing_3 : decode cX7_isRing 3 = .ok (.getfield 7, 3) := by decide +kernel
theorem dX7_isRing_6 : decode cX7_isRing 6 = .ok (.iconst 3, 1) := by decide +kernel
theorem dX7_isRing_7 : decode cX7_isRing 7 = .ok (.iaload, 1) := by decide +kernel
theorem dX7_isRing_8 : decode cX7_isRing 8 = .ok (.iconst 1, 1) := by decide +kernel
theorem dX7_isRing_9 : decode cX7_isRing 9 = .ok (.isub, 1) := by decide +kernel
theorem dX7_isRing_10 : decode cX7_isRing 10 = .ok (.invokestatic 39, 3) := by decide +kernel
theorem dX7_isRing_13 : decode cX7_isRing 13 = .ok (.ireturn, 1) := by decide +kernel
theorem dX7_isStacked_0 : decode cX7_isStacked 0 = .ok (.aload_n 0, 1) := by decide +kernel
theorem dX7_isStacked_1 : decode cX7_isStacked 1 = .ok (.getfield 7, 3) := by decide +kernel
theorem dX7_isStacked_4 : decode cX7_isStacked 4 = .ok (.iconst 4, 1) := by decide +kernel
theorem dX7_isStacked_5 : decode cX7_isStacked 5 = .ok (.iaload, 1) := by decide +kernel
theorem dX7_isStacked_6 : decode cX7_isStacked 6 = .ok (.iload_n 1, 1) := by decide +kernel
theorem dX7_isStacked_7 : decode cX7_isStacked 7 = .ok (.ishr, 1) := by decide +kernel
theorem dX7_isStacked_8 : decode cX7_isStacked 8 = .ok (.iconst 1, 1) := by decide +kernel
theorem dX7_isStacked_9 : decode cX7_isStacked 9 = .ok (.iand, 1) := by decide +kernel
theorem dX7_isStacked_10 : decode cX7_isStacked 10 = .ok (.iconst 1, 1) := by decide +kernel
theorem dX7_isStacked_11 : decode cX7_isStacked 11 = .ok (.if_icmp .ne 7, 3) := by decide +kernel
theorem dX7_isStacked_14 : decode cX7_isStacked 14 = .ok (.iconst 1, 1) := by decide +kernel
theorem dX7_isStacked_15 : decode cX7_isStacked 15 = .ok (.goto 4, 3) := by decide +kernel
theorem dX7_isStacked_18 : decode cX7_isStacked 18 = .ok (.iconst 0, 1) := by decide +kernel
theorem dX7_isStacked_19 : decode cX7_isStacked 19 = .ok (.ireturn, 1) := by decide +kernel
theorem dX7_massOf_0 : decode cX7_massOf 0 = .ok (.bipush 100, 2) := by decide +kernel
theorem dX7_massOf_2 : decode cX7_massOf 2 = .ok (.istore_n 2, 1) := by decide +kernel
theorem dX7_massOf_3 : decode cX7_massOf 3 = .ok (.iconst 0, 1) := by decide +kernel
theorem dX7_massOf_4 : decode cX7_massOf 4 = .ok (.istore_n 3, 1) := by decide +kernel
theorem dX7_massOf_5 : decode cX7_massOf 5 = .ok (.iload_n 3, 1) := by decide +kernel
theorem dX7_massOf_6 : decode cX7_massOf 6 = .ok (.aload_n 0, 1) := by decide +kernel
theorem dX7_massOf_7 : decode cX7_massOf 7 = .ok (.getfield 7, 3) := by decide +kernel
theorem dX7_massOf_10 : decode cX7_massOf 10 = .ok (.iconst 3, 1) := by decide +kernel
theorem dX7_massOf_11 : decode cX7_massOf 11 = .ok (.iaload, 1) := by decide +kernel
theorem dX7_massOf_12 : decode cX7_massOf 12 = .ok (.if_icmp .ge 27, 3) := by decide +kernel
theorem dX7_massOf_15 : decode cX7_massOf 15 = .ok (.iload_n 2, 1) := by decide +kernel
theorem dX7_massOf_16 : decode cX7_massOf 16 = .ok (.iload_n 1, 1) := by decide +kernel
theorem dX7_massOf_17 : decode cX7_massOf 17 = .ok (.iload_n 3, 1) := by decide +kernel
theorem dX7_massOf_18 : decode cX7_massOf 18 = .ok (.ishr, 1) := by decide +kernel
theorem dX7_massOf_19 : decode cX7_massOf 19 = .ok (.iconst 1, 1) := by decide +kernel
theorem dX7_massOf_20 : decode cX7_massOf 20 = .ok (.iand, 1) := by decide +kernel
theorem dX7_massOf_21 : decode cX7_massOf 21 = .ok (.aload_n 0, 1) := by decide +kernel
theorem dX7_massOf_22 : decode cX7_massOf 22 = .ok (.getfield 7, 3) := by decide +kernel
theorem dX7_massOf_25 : decode cX7_massOf 25 = .ok (.bipush 6, 2) := by decide +kernel
theorem dX7_massOf_27 : decode cX7_massOf 27 = .ok (.iload_n 3, 1) := by decide +kernel
theorem dX7_massOf_28 : decode cX7_massOf 28 = .ok (.iadd, 1) := by decide +kernel
theorem dX7_massOf_29 : decode cX7_massOf 29 = .ok (.iaload, 1) := by decide +kernel
theorem dX7_massOf_30 : decode cX7_massOf 30 = .ok (.imul, 1) := by decide +kernel
theorem dX7_massOf_31 : decode cX7_massOf 31 = .ok (.iadd, 1) := by decide +kernel
theorem dX7_massOf_32 : decode cX7_massOf 32 = .ok (.istore_n 2, 1) := by decide +kernel
theorem dX7_massOf_33 : decode cX7_massOf 33 = .ok (.iinc 3 1, 3) := by decide +kernel
theorem dX7_massOf_36 : decode cX7_massOf 36 = .ok (.goto (-31), 3) := by decide +kernel
theorem dX7_massOf_39 : decode cX7_massOf 39 = .ok (.iload_n 2, 1) := by decide +kernel
theorem dX7_massOf_40 : decode cX7_massOf 40 = .ok (.ireturn, 1) := by decide +kernel
theorem dX7_weightOf_0 : decode cX7_weightOf 0 = .ok (.iload_n 1, 1) := by decide +kernel
theorem dX7_weightOf_1 : decode cX7_weightOf 1 = .ok (.iload_n 1, 1) := by decide +kernel
theorem dX7_weightOf_2 : decode cX7_weightOf 2 = .ok (.bipush 100, 2) := by decide +kernel
theorem dX7_weightOf_4 : decode cX7_weightOf 4 = .ok (.iconst 5, 1) := by decide +kernel
theorem dX7_weightOf_5 : decode cX7_weightOf 5 = .ok (.iload_n 2, 1) := by decide +kernel
theorem dX7_weightOf_6 : decode cX7_weightOf 6 = .ok (.imul, 1) := by decide +kernel
theorem dX7_weightOf_7 : decode cX7_weightOf 7 = .ok (.iadd, 1) := by decide +kernel
theorem dX7_weightOf_8 : decode cX7_weightOf 8 = .ok (.imul, 1) := by decide +kernel
theorem dX7_weightOf_9 : decode cX7_weightOf 9 = .ok (.ldc 43, 2) := by decide +kernel
theorem dX7_weightOf_11 : decode cX7_weightOf 11 = .ok (.invokestatic 44, 3) := by decide +kernel
theorem dX7_weightOf_14 : decode cX7_weightOf 14 = .ok (.isub, 1) := by decide +kernel
theorem dX7_weightOf_15 : decode cX7_weightOf 15 = .ok (.ireturn, 1) := by decide +kernel
theorem dX7_pressureBy_0 : decode cX7_pressureBy 0 = .ok (.aload_n 0, 1) := by decide +kernel
theorem dX7_pressureBy_1 : decode cX7_pressureBy 1 = .ok (.iload_n 1, 1) := by decide +kernel
theorem dX7_pressureBy_2 : decode cX7_pressureBy 2 = .ok (.iload_n 2, 1) := by decide +kernel
theorem dX7_pressureBy_3 : decode cX7_pressureBy 3 = .ok (.invokevirtual 48, 3) := by decide +kernel
theorem dX7_pressureBy_6 : decode cX7_pressureBy 6 = .ok (.bipush 100, 2) := by decide +kernel
theorem dX7_pressureBy_8 : decode cX7_pressureBy 8 = .ok (.imul, 1) := by decide +kernel
theorem dX7_pressureBy_9 : decode cX7_pressureBy 9 = .ok (.aload_n 0, 1) := by decide +kernel
theorem dX7_pressureBy_10 : decode cX7_pressureBy 10 = .ok (.getfield 7, 3) := by decide +kernel
theorem dX7_pressureBy_13 : decode cX7_pressureBy 13 = .ok (.iconst 1, 1) := by decide +kernel
theorem dX7_pressureBy_14 : decode cX7_pressureBy 14 = .ok (.iaload, 1) := by decide +kernel
theorem dX7_pressureBy_15 : decode cX7_pressureBy 15 = .ok (.idiv, 1) := by decide +kernel
theorem dX7_pressureBy_16 : decode cX7_pressureBy 16 = .ok (.ireturn, 1) := by decide +kernel
theorem dX7_pressureOf_0 : decode cX7_pressureOf 0 = .ok (.aload_n 0, 1) := by decide +kernel
theorem dX7_pressureOf_1 : decode cX7_pressureOf 1 = .ok (.aload_n 0, 1) := by decide +kernel
theorem dX7_pressureOf_2 : decode cX7_pressureOf 2 = .ok (.iload_n 1, 1) := by decide +kernel
theorem dX7_pressureOf_3 : decode cX7_pressureOf 3 = .ok (.invokevirtual 51, 3) := by decide +kernel
theorem dX7_pressureOf_6 : decode cX7_pressureOf 6 = .ok (.aload_n 0, 1) := by decide +kernel
theorem dX7_pressureOf_7 : decode cX7_pressureOf 7 = .ok (.getfield 7, 3) := by decide +kernel
theorem dX7_pressureOf_10 : decode cX7_pressureOf 10 = .ok (.iconst 0, 1) := by decide +kernel
theorem dX7_pressureOf_11 : decode cX7_pressureOf 11 = .ok (.iaload, 1) := by decide +kernel
theorem dX7_pressureOf_12 : decode cX7_pressureOf 12 = .ok (.invokevirtual 55, 3) := by decide +kernel
theorem dX7_pressureOf_15 : decode cX7_pressureOf 15 = .ok (.ireturn, 1) := by decide +kernel
theorem dX7_bits_0 : decode cX7_bits 0 = .ok (.iconst 0, 1) := by decide +kernel
theorem dX7_bits_1 : decode cX7_bits 1 = .ok (.istore_n 1, 1) := by decide +kernel
theorem dX7_bits_2 : decode cX7_bits 2 = .ok (.iconst 0, 1) := by decide +kernel
theorem dX7_bits_3 : decode cX7_bits 3 = .ok (.istore_n 2, 1) := by decide +kernel
theorem dX7_bits_4 : decode cX7_bits 4 = .ok (.iload_n 2, 1) := by decide +kernel
theorem dX7_bits_5 : decode cX7_bits 5 = .ok (.bipush 14, 2) := by decide +kernel
theorem dX7_bits_7 : decode cX7_bits 7 = .ok (.if_icmp .ge 17, 3) := by decide +kernel
theorem dX7_bits_10 : decode cX7_bits 10 = .ok (.iload_n 1, 1) := by decide +kernel
theorem dX7_bits_11 : decode cX7_bits 11 = .ok (.iload_n 0, 1) := by decide +kernel
theorem dX7_bits_12 : decode cX7_bits 12 = .ok (.iload_n 2, 1) := by decide +kernel
theorem dX7_bits_13 : decode cX7_bits 13 = .ok (.ishr, 1) := by decide +kernel
theorem dX7_bits_14 : decode cX7_bits 14 = .ok (.iconst 1, 1) := by decide +kernel
theorem dX7_bits_15 : decode cX7_bits 15 = .ok (.iand, 1) := by decide +kernel
theorem dX7_bits_16 : decode cX7_bits 16 = .ok (.iadd, 1) := by decide +kernel
theorem dX7_bits_17 : decode cX7_bits 17 = .ok (.istore_n 1, 1) := by decide +kernel
theorem dX7_bits_18 : decode cX7_bits 18 = .ok (.iinc 2 1, 3) := by decide +kernel
theorem dX7_bits_21 : decode cX7_bits 21 = .ok (.goto (-17), 3) := by decide +kernel
theorem dX7_bits_24 : decode cX7_bits 24 = .ok (.iload_n 1, 1) := by decide +kernel
theorem dX7_bits_25 : decode cX7_bits 25 = .ok (.ireturn, 1) := by decide +kernel
theorem dX7_findOrder_0 : decode cX7_findOrder 0 = .ok (.iconst 0, 1) := by decide +kernel
theorem dX7_findOrder_1 : decode cX7_findOrder 1 = .ok (.istore_n 1, 1) := by decide +kernel
theorem dX7_findOrder_2 : decode cX7_findOrder 2 = .ok (.iload_n 1, 1) := by decide +kernel
theorem dX7_findOrder_3 : decode cX7_findOrder 3 = .ok (.aload_n 0, 1) := by decide +kernel
theorem dX7_findOrder_4 : decode cX7_findOrder 4 = .ok (.getfield 7, 3) := by decide +kernel
theorem dX7_findOrder_7 : decode cX7_findOrder 7 = .ok (.iconst 3, 1) := by decide +kernel
theorem dX7_findOrder_8 : decode cX7_findOrder 8 = .ok (.iaload, 1) := by decide +kernel
theorem dX7_findOrder_9 : decode cX7_findOrder 9 = .ok (.if_icmp .ge 70, 3) := by decide +kernel
theorem dX7_findOrder_12 : decode cX7_findOrder 12 = .ok (.iload_n 1, 1) := by decide +kernel
theorem dX7_findOrder_13 : decode cX7_findOrder 13 = .ok (.istore_n 2, 1) := by decide +kernel
theorem dX7_findOrder_14 : decode cX7_findOrder 14 = .ok (.iload_n 2, 1) := by decide +kernel
theorem dX7_findOrder_15 : decode cX7_findOrder 15 = .ok (.ifCond .le 51, 3) := by decide +kernel
theorem dX7_findOrder_18 : decode cX7_findOrder 18 = .ok (.aload_n 0, 1) := by decide +kernel
theorem dX7_findOrder_19 : decode cX7_findOrder 19 = .ok (.getfield 7, 3) := by decide +kernel
theorem dX7_findOrder_22 : decode cX7_findOrder 22 = .ok (.bipush 6, 2) := by decide +kernel
theorem dX7_findOrder_24 : decode cX7_findOrder 24 = .ok (.aload_n 0, 1) := by decide +kernel
theorem dX7_findOrder_25 : decode cX7_findOrder 25 = .ok (.getfield 25, 3) := by decide +kernel
theorem dX7_findOrder_28 : decode cX7_findOrder 28 = .ok (.iload_n 2, 1) := by decide +kernel
theorem dX7_findOrder_29 : decode cX7_findOrder 29 = .ok (.iconst 1, 1) := by decide +kernel
theorem dX7_findOrder_30 : decode cX7_findOrder 30 = .ok (.isub, 1) := by decide +kernel
theorem dX7_findOrder_31 : decode cX7_findOrder 31 = .ok (.iaload, 1) := by decide +kernel
theorem dX7_findOrder_32 : decode cX7_findOrder 32 = .ok (.iadd, 1) := by decide +kernel
theorem dX7_findOrder_33 : decode cX7_findOrder 33 = .ok (.iaload, 1) := by decide +kernel
theorem dX7_findOrder_34 : decode cX7_findOrder 34 = .ok (.aload_n 0, 1) := by decide +kernel
theorem dX7_findOrder_35 : decode cX7_findOrder 35 = .ok (.getfield 7, 3) := by decide +kernel
theorem dX7_findOrder_38 : decode cX7_findOrder 38 = .ok (.bipush 6, 2) := by decide +kernel
theorem dX7_findOrder_40 : decode cX7_findOrder 40 = .ok (.iload_n 1, 1) := by decide +kernel
theorem dX7_findOrder_41 : decode cX7_findOrder 41 = .ok (.iadd, 1) := by decide +kernel
theorem dX7_findOrder_42 : decode cX7_findOrder 42 = .ok (.iaload, 1) := by decide +kernel
theorem dX7_findOrder_43 : decode cX7_findOrder 43 = .ok (.if_icmp .le 23, 3) := by decide +kernel
theorem dX7_findOrder_46 : decode cX7_findOrder 46 = .ok (.aload_n 0, 1) := by decide +kernel
theorem dX7_findOrder_47 : decode cX7_findOrder 47 = .ok (.getfield 25, 3) := by decide +kernel
theorem dX7_findOrder_50 : decode cX7_findOrder 50 = .ok (.iload_n 2, 1) := by decide +kernel
theorem dX7_findOrder_51 : decode cX7_findOrder 51 = .ok (.aload_n 0, 1) := by decide +kernel
theorem dX7_findOrder_52 : decode cX7_findOrder 52 = .ok (.getfield 25, 3) := by decide +kernel
theorem dX7_findOrder_55 : decode cX7_findOrder 55 = .ok (.iload_n 2, 1) := by decide +kernel
theorem dX7_findOrder_56 : decode cX7_findOrder 56 = .ok (.iconst 1, 1) := by decide +kernel
theorem dX7_findOrder_57 : decode cX7_findOrder 57 = .ok (.isub, 1) := by decide +kernel
theorem dX7_findOrder_58 : decode cX7_findOrder 58 = .ok (.iaload, 1) := by decide +kernel
theorem dX7_findOrder_59 : decode cX7_findOrder 59 = .ok (.iastore, 1) := by decide +kernel
theorem dX7_findOrder_60 : decode cX7_findOrder 60 = .ok (.iinc 2 (-1), 3) := by decide +kernel
theorem dX7_findOrder_63 : decode cX7_findOrder 63 = .ok (.goto (-49), 3) := by decide +kernel
theorem dX7_findOrder_66 : decode cX7_findOrder 66 = .ok (.aload_n 0, 1) := by decide +kernel
theorem dX7_findOrder_67 : decode cX7_findOrder 67 = .ok (.getfield 25, 3) := by decide +kernel
theorem dX7_findOrder_70 : decode cX7_findOrder 70 = .ok (.iload_n 2, 1) := by decide +kernel
theorem dX7_findOrder_71 : decode cX7_findOrder 71 = .ok (.iload_n 1, 1) := by decide +kernel
theorem dX7_findOrder_72 : decode cX7_findOrder 72 = .ok (.iastore, 1) := by decide +kernel
theorem dX7_findOrder_73 : decode cX7_findOrder 73 = .ok (.iinc 1 1, 3) := by decide +kernel
theorem dX7_findOrder_76 : decode cX7_findOrder 76 = .ok (.goto (-74), 3) := by decide +kernel
theorem dX7_findOrder_79 : decode cX7_findOrder 79 = .ok (.return_, 1) := by decide +kernel
theorem dX7_isGauge_0 : decode cX7_isGauge 0 = .ok (.iload_n 1, 1) := by decide +kernel
theorem dX7_isGauge_1 : decode cX7_isGauge 1 = .ok (.iconst 0, 1) := by decide +kernel
theorem dX7_isGauge_2 : decode cX7_isGauge 2 = .ok (.aload_n 0, 1) := by decide +kernel
theorem dX7_isGauge_3 : decode cX7_isGauge 3 = .ok (.getfield 7, 3) := by decide +kernel
theorem dX7_isGauge_6 : decode cX7_isGauge 6 = .ok (.iconst 5, 1) := by decide +kernel
theorem dX7_isGauge_7 : decode cX7_isGauge 7 = .ok (.iaload, 1) := by decide +kernel
theorem dX7_isGauge_8 : decode cX7_isGauge 8 = .ok (.iconst 1, 1) := by decide +kernel
theorem dX7_isGauge_9 : decode cX7_isGauge 9 = .ok (.isub, 1) := by decide +kernel
theorem dX7_isGauge_10 : decode cX7_isGauge 10 = .ok (.invokestatic 39, 3) := by decide +kernel
theorem dX7_isGauge_13 : decode cX7_isGauge 13 = .ok (.ireturn, 1) := by decide +kernel
theorem dX7_part_0 : decode cX7_part 0 = .ok (.aload_n 0, 1) := by decide +kernel
theorem dX7_part_1 : decode cX7_part 1 = .ok (.getfield 7, 3) := by decide +kernel
theorem dX7_part_4 : decode cX7_part 4 = .ok (.bipush 20, 2) := by decide +kernel
theorem dX7_part_6 : decode cX7_part 6 = .ok (.bipush 36, 2) := by decide +kernel
theorem dX7_part_8 : decode cX7_part 8 = .ok (.iload_n 1, 1) := by decide +kernel
theorem dX7_part_9 : decode cX7_part 9 = .ok (.imul, 1) := by decide +kernel
theorem dX7_part_10 : decode cX7_part 10 = .ok (.iadd, 1) := by decide +kernel
theorem dX7_part_11 : decode cX7_part 11 = .ok (.iload_n 2, 1) := by decide +kernel
theorem dX7_part_12 : decode cX7_part 12 = .ok (.iadd, 1) := by decide +kernel
theorem dX7_part_13 : decode cX7_part 13 = .ok (.iaload, 1) := by decide +kernel
theorem dX7_part_14 : decode cX7_part 14 = .ok (.ireturn, 1) := by decide +kernel
theorem dX7_setPart_0 : decode cX7_setPart 0 = .ok (.aload_n 0, 1) := by decide +kernel
theorem dX7_setPart_1 : decode cX7_setPart 1 = .ok (.getfield 7, 3) := by decide +kernel
theorem dX7_setPart_4 : decode cX7_setPart 4 = .ok (.bipush 20, 2) := by decide +kernel
theorem dX7_setPart_6 : decode cX7_setPart 6 = .ok (.bipush 36, 2) := by decide +kernel
theorem dX7_setPart_8 : decode cX7_setPart 8 = .ok (.iload_n 1, 1) := by decide +kernel
theorem dX7_setPart_9 : decode cX7_setPart 9 = .ok (.imul, 1) := by decide +kernel
theorem dX7_setPart_10 : decode cX7_setPart 10 = .ok (.iadd, 1) := by decide +kernel
theorem dX7_setPart_11 : decode cX7_setPart 11 = .ok (.iload_n 2, 1) := by decide +kernel
theorem dX7_setPart_12 : decode cX7_setPart 12 = .ok (.iadd, 1) := by decide +kernel
theorem dX7_setPart_13 : decode cX7_setPart 13 = .ok (.iload_n 3, 1) := by decide +kernel
theorem dX7_setPart_14 : decode cX7_setPart 14 = .ok (.iastore, 1) := by decide +kernel
theorem dX7_setPart_15 : decode cX7_setPart 15 = .ok (.return_, 1) := by decide +kernel
theorem dX7_truth_0 : decode cX7_truth 0 = .ok (.iload_n 0, 1) := by decide +kernel
theorem dX7_truth_1 : decode cX7_truth 1 = .ok (.iload_n 1, 1) := by decide +kernel
theorem dX7_truth_2 : decode cX7_truth 2 = .ok (.invokestatic 58, 3) := by decide +kernel
theorem dX7_truth_5 : decode cX7_truth 5 = .ok (.imul, 1) := by decide +kernel
theorem dX7_truth_6 : decode cX7_truth 6 = .ok (.sipush 1000, 3) := by decide +kernel
theorem dX7_truth_9 : decode cX7_truth 9 = .ok (.idiv, 1) := by decide +kernel
theorem dX7_truth_10 : decode cX7_truth 10 = .ok (.istore_n 2, 1) := by decide +kernel
theorem dX7_truth_11 : decode cX7_truth 11 = .ok (.iload_n 1, 1) := by decide +kernel
theorem dX7_truth_12 : decode cX7_truth 12 = .ok (.ifCond .ge 9, 3) := by decide +kernel
theorem dX7_truth_15 : decode cX7_truth 15 = .ok (.iload_n 0, 1) := by decide +kernel
theorem dX7_truth_16 : decode cX7_truth 16 = .ok (.iload_n 2, 1) := by decide +kernel
theorem dX7_truth_17 : decode cX7_truth 17 = .ok (.isub, 1) := by decide +kernel
theorem dX7_truth_18 : decode cX7_truth 18 = .ok (.goto 6, 3) := by decide +kernel
theorem dX7_truth_21 : decode cX7_truth 21 = .ok (.iload_n 0, 1) := by decide +kernel
theorem dX7_truth_22 : decode cX7_truth 22 = .ok (.iload_n 2, 1) := by decide +kernel
theorem dX7_truth_23 : decode cX7_truth 23 = .ok (.iadd, 1) := by decide +kernel
theorem dX7_truth_24 : decode cX7_truth 24 = .ok (.ireturn, 1) := by decide +kernel
theorem dX7_goesTo_0 : decode cX7_goesTo 0 = .ok (.iload_n 1, 1) := by decide +kernel
theorem dX7_goesTo_1 : decode cX7_goesTo 1 = .ok (.iload_n 2, 1) := by decide +kernel
theorem dX7_goesTo_2 : decode cX7_goesTo 2 = .ok (.invokestatic 61, 3) := by decide +kernel
theorem dX7_goesTo_5 : decode cX7_goesTo 5 = .ok (.istore 4, 2) := by decide +kernel
theorem dX7_goesTo_7 : decode cX7_goesTo 7 = .ok (.iload_n 0, 1) := by decide +kernel
theorem dX7_goesTo_8 : decode cX7_goesTo 8 = .ok (.iload 4, 2) := by decide +kernel
theorem dX7_goesTo_10 : decode cX7_goesTo 10 = .ok (.iload_n 3, 1) := by decide +kernel
theorem dX7_goesTo_11 : decode cX7_goesTo 11 = .ok (.isub, 1) := by decide +kernel
theorem dX7_goesTo_12 : decode cX7_goesTo 12 = .ok (.if_icmp .ge 10, 3) := by decide +kernel
theorem dX7_goesTo_15 : decode cX7_goesTo 15 = .ok (.iload 4, 2) := by decide +kernel
theorem dX7_goesTo_17 : decode cX7_goesTo 17 = .ok (.iload_n 3, 1) := by decide +kernel
theorem dX7_goesTo_18 : decode cX7_goesTo 18 = .ok (.isub, 1) := by decide +kernel
theorem dX7_goesTo_19 : decode cX7_goesTo 19 = .ok (.goto 19, 3) := by decide +kernel
theorem dX7_goesTo_22 : decode cX7_goesTo 22 = .ok (.iload_n 0, 1) := by decide +kernel
theorem dX7_goesTo_23 : decode cX7_goesTo 23 = .ok (.iload 4, 2) := by decide +kernel
theorem dX7_goesTo_25 : decode cX7_goesTo 25 = .ok (.iload_n 3, 1) := by decide +kernel
theorem dX7_goesTo_26 : decode cX7_goesTo 26 = .ok (.iadd, 1) := by decide +kernel
theorem dX7_goesTo_27 : decode cX7_goesTo 27 = .ok (.if_icmp .le 10, 3) := by decide +kernel
theorem dX7_goesTo_30 : decode cX7_goesTo 30 = .ok (.iload 4, 2) := by decide +kernel
theorem dX7_goesTo_32 : decode cX7_goesTo 32 = .ok (.iload_n 3, 1) := by decide +kernel
theorem dX7_goesTo_33 : decode cX7_goesTo 33 = .ok (.iadd, 1) := by decide +kernel
theorem dX7_goesTo_34 : decode cX7_goesTo 34 = .ok (.goto 4, 3) := by decide +kernel
theorem dX7_goesTo_37 : decode cX7_goesTo 37 = .ok (.iload_n 0, 1) := by decide +kernel
theorem dX7_goesTo_38 : decode cX7_goesTo 38 = .ok (.ireturn, 1) := by decide +kernel
theorem dX7_reads_0 : decode cX7_reads 0 = .ok (.iload_n 0, 1) := by decide +kernel
theorem dX7_reads_1 : decode cX7_reads 1 = .ok (.iload_n 1, 1) := by decide +kernel
theorem dX7_reads_2 : decode cX7_reads 2 = .ok (.invokestatic 44, 3) := by decide +kernel
theorem dX7_reads_5 : decode cX7_reads 5 = .ok (.iload_n 1, 1) := by decide +kernel
theorem dX7_reads_6 : decode cX7_reads 6 = .ok (.imul, 1) := by decide +kernel
theorem dX7_reads_7 : decode cX7_reads 7 = .ok (.ireturn, 1) := by decide +kernel
theorem dX7_handGoes_0 : decode cX7_handGoes 0 = .ok (.aload_n 0, 1) := by decide +kernel
theorem dX7_handGoes_1 : decode cX7_handGoes 1 = .ok (.iload_n 1, 1) := by decide +kernel
theorem dX7_handGoes_2 : decode cX7_handGoes 2 = .ok (.iconst 3, 1) := by decide +kernel
theorem dX7_handGoes_3 : decode cX7_handGoes 3 = .ok (.aload_n 0, 1) := by decide +kernel
theorem dX7_handGoes_4 : decode cX7_handGoes 4 = .ok (.iload_n 1, 1) := by decide +kernel
theorem dX7_handGoes_5 : decode cX7_handGoes 5 = .ok (.iconst 3, 1) := by decide +kernel
theorem dX7_handGoes_6 : decode cX7_handGoes 6 = .ok (.invokevirtual 64, 3) := by decide +kernel
theorem dX7_handGoes_9 : decode cX7_handGoes 9 = .ok (.aload_n 0, 1) := by decide +kernel
theorem dX7_handGoes_10 : decode cX7_handGoes 10 = .ok (.aload_n 0, 1) := by decide +kernel
theorem dX7_handGoes_11 : decode cX7_handGoes 11 = .ok (.getfield 7, 3) := by decide +kernel
theorem dX7_handGoes_14 : decode cX7_handGoes 14 = .ok (.iconst 4, 1) := by decide +kernel
theorem dX7_handGoes_15 : decode cX7_handGoes 15 = .ok (.iaload, 1) := by decide +kernel
theorem dX7_handGoes_16 : decode cX7_handGoes 16 = .ok (.invokevirtual 67, 3) := by decide +kernel
theorem dX7_handGoes_19 : decode cX7_handGoes 19 = .ok (.aload_n 0, 1) := by decide +kernel
theorem dX7_handGoes_20 : decode cX7_handGoes 20 = .ok (.iload_n 1, 1) := by decide +kernel
theorem dX7_handGoes_21 : decode cX7_handGoes 21 = .ok (.iconst 0, 1) := by decide +kernel
theorem dX7_handGoes_22 : decode cX7_handGoes 22 = .ok (.invokevirtual 64, 3) := by decide +kernel
theorem dX7_handGoes_25 : decode cX7_handGoes 25 = .ok (.aload_n 0, 1) := by decide +kernel
theorem dX7_handGoes_26 : decode cX7_handGoes 26 = .ok (.iload_n 1, 1) := by decide +kernel
theorem dX7_handGoes_27 : decode cX7_handGoes 27 = .ok (.iconst 1, 1) := by decide +kernel
theorem dX7_handGoes_28 : decode cX7_handGoes 28 = .ok (.invokevirtual 64, 3) := by decide +kernel
theorem dX7_handGoes_31 : decode cX7_handGoes 31 = .ok (.invokestatic 70, 3) := by decide +kernel
theorem dX7_handGoes_34 : decode cX7_handGoes 34 = .ok (.invokevirtual 74, 3) := by decide +kernel
theorem dX7_handGoes_37 : decode cX7_handGoes 37 = .ok (.return_, 1) := by decide +kernel
theorem dX7_handsGo_0 : decode cX7_handsGo 0 = .ok (.iconst 0, 1) := by decide +kernel
theorem dX7_handsGo_1 : decode cX7_handsGo 1 = .ok (.istore_n 1, 1) := by decide +kernel
theorem dX7_handsGo_2 : decode cX7_handsGo 2 = .ok (.iload_n 1, 1) := by decide +kernel
theorem dX7_handsGo_3 : decode cX7_handsGo 3 = .ok (.aload_n 0, 1) := by decide +kernel
theorem dX7_handsGo_4 : decode cX7_handsGo 4 = .ok (.getfield 7, 3) := by decide +kernel
theorem dX7_handsGo_7 : decode cX7_handsGo 7 = .ok (.iconst 5, 1) := by decide +kernel
theorem dX7_handsGo_8 : decode cX7_handsGo 8 = .ok (.iaload, 1) := by decide +kernel
theorem dX7_handsGo_9 : decode cX7_handsGo 9 = .ok (.if_icmp .ge 14, 3) := by decide +kernel
theorem dX7_handsGo_12 : decode cX7_handsGo 12 = .ok (.aload_n 0, 1) := by decide +kernel
theorem dX7_handsGo_13 : decode cX7_handsGo 13 = .ok (.iload_n 1, 1) := by decide +kernel
theorem dX7_handsGo_14 : decode cX7_handsGo 14 = .ok (.invokevirtual 78, 3) := by decide +kernel
theorem dX7_handsGo_17 : decode cX7_handsGo 17 = .ok (.iinc 1 1, 3) := by decide +kernel
theorem dX7_handsGo_20 : decode cX7_handsGo 20 = .ok (.goto (-18), 3) := by decide +kernel
theorem dX7_handsGo_23 : decode cX7_handsGo 23 = .ok (.return_, 1) := by decide +kernel
theorem dX7_voids_0 : decode cX7_voids 0 = .ok (.iconst 4, 1) := by decide +kernel
theorem dX7_voids_1 : decode cX7_voids 1 = .ok (.istore_n 2, 1) := by decide +kernel
theorem dX7_voids_2 : decode cX7_voids 2 = .ok (.iload_n 2, 1) := by decide +kernel
theorem dX7_voids_3 : decode cX7_voids 3 = .ok (.bipush 36, 2) := by decide +kernel
theorem dX7_voids_5 : decode cX7_voids 5 = .ok (.if_icmp .ge 16, 3) := by decide +kernel
theorem dX7_voids_8 : decode cX7_voids 8 = .ok (.aload_n 0, 1) := by decide +kernel
theorem dX7_voids_9 : decode cX7_voids 9 = .ok (.iload_n 1, 1) := by decide +kernel
theorem dX7_voids_10 : decode cX7_voids 10 = .ok (.iload_n 2, 1) := by decide +kernel
theorem dX7_voids_11 : decode cX7_voids 11 = .ok (.iconst 0, 1) := by decide +kernel
theorem dX7_voids_12 : decode cX7_voids 12 = .ok (.invokevirtual 74, 3) := by decide +kernel
theorem dX7_voids_15 : decode cX7_voids 15 = .ok (.iinc 2 1, 3) := by decide +kernel
theorem dX7_voids_18 : decode cX7_voids 18 = .ok (.goto (-16), 3) := by decide +kernel
theorem dX7_voids_21 : decode cX7_voids 21 = .ok (.return_, 1) := by decide +kernel
theorem dX7_voidsAll_0 : decode cX7_voidsAll 0 = .ok (.iconst 0, 1) := by decide +kernel
theorem dX7_voidsAll_1 : decode cX7_voidsAll 1 = .ok (.istore_n 1, 1) := by decide +kernel
theorem dX7_voidsAll_2 : decode cX7_voidsAll 2 = .ok (.iload_n 1, 1) := by decide +kernel
theorem dX7_voidsAll_3 : decode cX7_voidsAll 3 = .ok (.bipush 6, 2) := by decide +kernel
theorem dX7_voidsAll_5 : decode cX7_voidsAll 5 = .ok (.if_icmp .ge 14, 3) := by decide +kernel
theorem dX7_voidsAll_8 : decode cX7_voidsAll 8 = .ok (.aload_n 0, 1) := by decide +kernel
theorem dX7_voidsAll_9 : decode cX7_voidsAll 9 = .ok (.iload_n 1, 1) := by decide +kernel
theorem dX7_voidsAll_10 : decode cX7_voidsAll 10 = .ok (.invokevirtual 82, 3) := by decide +kernel
theorem dX7_voidsAll_13 : decode cX7_voidsAll 13 = .ok (.iinc 1 1, 3) := by decide +kernel
theorem dX7_voidsAll_16 : decode cX7_voidsAll 16 = .ok (.goto (-14), 3) := by decide +kernel
theorem dX7_voidsAll_19 : decode cX7_voidsAll 19 = .ok (.return_, 1) := by decide +kernel
theorem dX7_certificates_0 : decode cX7_certificates 0 = .ok (.iconst 0, 1) := by decide +kernel
theorem dX7_certificates_1 : decode cX7_certificates 1 = .ok (.istore_n 1, 1) := by decide +kernel
theorem dX7_certificates_2 : decode cX7_certificates 2 = .ok (.iconst 0, 1) := by decide +kernel
theorem dX7_certificates_3 : decode cX7_certificates 3 = .ok (.istore_n 2, 1) := by decide +kernel
theorem dX7_certificates_4 : decode cX7_certificates 4 = .ok (.iload_n 2, 1) := by decide +kernel
theorem dX7_certificates_5 : decode cX7_certificates 5 = .ok (.aload_n 0, 1) := by decide +kernel
theorem dX7_certificates_6 : decode cX7_certificates 6 = .ok (.getfield 7, 3) := by decide +kernel
theorem dX7_certificates_9 : decode cX7_certificates 9 = .ok (.iconst 5, 1) := by decide +kernel
theorem dX7_certificates_10 : decode cX7_certificates 10 = .ok (.iaload, 1) := by decide +kernel
theorem dX7_certificates_11 : decode cX7_certificates 11 = .ok (.if_icmp .ge 18, 3) := by decide +kernel
theorem dX7_certificates_14 : decode cX7_certificates 14 = .ok (.iload_n 1, 1) := by decide +kernel
theorem dX7_certificates_15 : decode cX7_certificates 15 = .ok (.aload_n 0, 1) := by decide +kernel
theorem dX7_certificates_16 : decode cX7_certificates 16 = .ok (.iload_n 2, 1) := by decide +kernel
theorem dX7_certificates_17 : decode cX7_certificates 17 = .ok (.iconst 4, 1) := by decide +kernel
theorem dX7_certificates_18 : decode cX7_certificates 18 = .ok (.invokevirtual 64, 3) := by decide +kernel
theorem dX7_certificates_21 : decode cX7_certificates 21 = .ok (.iadd, 1) := by decide +kernel
theorem dX7_certificates_22 : decode cX7_certificates 22 = .ok (.istore_n 1, 1) := by decide +kernel
theorem dX7_certificates_23 : decode cX7_certificates 23 = .ok (.iinc 2 1, 3) := by decide +kernel
theorem dX7_certificates_26 : decode cX7_certificates 26 = .ok (.goto (-22), 3) := by decide +kernel
theorem dX7_certificates_29 : decode cX7_certificates 29 = .ok (.iload_n 1, 1) := by decide +kernel
theorem dX7_certificates_30 : decode cX7_certificates 30 = .ok (.ireturn, 1) := by decide +kernel
theorem dX7_tests_0 : decode cX7_tests 0 = .ok (.aload_n 0, 1) := by decide +kernel
theorem dX7_tests_1 : decode cX7_tests 1 = .ok (.getfield 7, 3) := by decide +kernel
theorem dX7_tests_4 : decode cX7_tests 4 = .ok (.iconst 3, 1) := by decide +kernel
theorem dX7_tests_5 : decode cX7_tests 5 = .ok (.iaload, 1) := by decide +kernel
theorem dX7_tests_6 : decode cX7_tests 6 = .ok (.istore_n 3, 1) := by decide +kernel
theorem dX7_tests_7 : decode cX7_tests 7 = .ok (.iconst 0, 1) := by decide +kernel
theorem dX7_tests_8 : decode cX7_tests 8 = .ok (.istore 4, 2) := by decide +kernel
theorem dX7_tests_10 : decode cX7_tests 10 = .ok (.iconst 0, 1) := by decide +kernel
theorem dX7_tests_11 : decode cX7_tests 11 = .ok (.istore 5, 2) := by decide +kernel
theorem dX7_tests_13 : decode cX7_tests 13 = .ok (.aload_n 0, 1) := by decide +kernel
theorem dX7_tests_14 : decode cX7_tests 14 = .ok (.iconst (-1), 1) := by decide +kernel
theorem dX7_tests_15 : decode cX7_tests 15 = .ok (.putfield 85, 3) := by decide +kernel
theorem dX7_tests_18 : decode cX7_tests 18 = .ok (.aload_n 0, 1) := by decide +kernel
theorem dX7_tests_19 : decode cX7_tests 19 = .ok (.iconst 0, 1) := by decide +kernel
theorem dX7_tests_20 : decode cX7_tests 20 = .ok (.putfield 88, 3) := by decide +kernel
theorem dX7_tests_23 : decode cX7_tests 23 = .ok (.aload_n 0, 1) := by decide +kernel
theorem dX7_tests_24 : decode cX7_tests 24 = .ok (.invokevirtual 91, 3) := by decide +kernel
theorem dX7_tests_27 : decode cX7_tests 27 = .ok (.iconst 0, 1) := by decide +kernel
theorem dX7_tests_28 : decode cX7_tests 28 = .ok (.istore 6, 2) := by decide +kernel
theorem dX7_tests_30 : decode cX7_tests 30 = .ok (.iload 6, 2) := by decide +kernel
theorem dX7_tests_32 : decode cX7_tests 32 = .ok (.iconst 2, 1) := by decide +kernel
theorem dX7_tests_33 : decode cX7_tests 33 = .ok (.iload_n 3, 1) := by decide +kernel
theorem dX7_tests_34 : decode cX7_tests 34 = .ok (.imul, 1) := by decide +kernel
theorem dX7_tests_35 : decode cX7_tests 35 = .ok (.if_icmp .ge 145, 3) := by decide +kernel
theorem dX7_tests_38 : decode cX7_tests 38 = .ok (.aload_n 0, 1) := by decide +kernel
theorem dX7_tests_39 : decode cX7_tests 39 = .ok (.getfield 25, 3) := by decide +kernel
theorem dX7_tests_42 : decode cX7_tests 42 = .ok (.iload 6, 2) := by decide +kernel
theorem dX7_tests_44 : decode cX7_tests 44 = .ok (.iload_n 3, 1) := by decide +kernel
theorem dX7_tests_45 : decode cX7_tests 45 = .ok (.if_icmp .ge 8, 3) := by decide +kernel
theorem dX7_tests_48 : decode cX7_tests 48 = .ok (.iload 6, 2) := by decide +kernel
theorem dX7_tests_50 : decode cX7_tests 50 = .ok (.goto 11, 3) := by decide +kernel
theorem dX7_tests_53 : decode cX7_tests 53 = .ok (.iconst 2, 1) := by decide +kernel
theorem dX7_tests_54 : decode cX7_tests 54 = .ok (.iload_n 3, 1) := by decide +kernel
theorem dX7_tests_55 : decode cX7_tests 55 = .ok (.imul, 1) := by decide +kernel
theorem dX7_tests_56 : decode cX7_tests 56 = .ok (.iconst 1, 1) := by decide +kernel
theorem dX7_tests_57 : decode cX7_tests 57 = .ok (.isub, 1) := by decide +kernel
theorem dX7_tests_58 : decode cX7_tests 58 = .ok (.iload 6, 2) := by decide +kernel
theorem dX7_tests_60 : decode cX7_tests 60 = .ok (.isub, 1) := by decide +kernel
theorem dX7_tests_61 : decode cX7_tests 61 = .ok (.iaload, 1) := by decide +kernel
theorem dX7_tests_62 : decode cX7_tests 62 = .ok (.istore 7, 2) := by decide +kernel
theorem dX7_tests_64 : decode cX7_tests 64 = .ok (.iload 5, 2) := by decide +kernel
theorem dX7_tests_66 : decode cX7_tests 66 = .ok (.iconst 1, 1) := by decide +kernel
theorem dX7_tests_67 : decode cX7_tests 67 = .ok (.iload 7, 2) := by decide +kernel
theorem dX7_tests_69 : decode cX7_tests 69 = .ok (.ishl, 1) := by decide +kernel
theorem dX7_tests_70 : decode cX7_tests 70 = .ok (.ixor, 1) := by decide +kernel
theorem dX7_tests_71 : decode cX7_tests 71 = .ok (.istore 5, 2) := by decide +kernel
theorem dX7_tests_73 : decode cX7_tests 73 = .ok (.aload_n 0, 1) := by decide +kernel
theorem dX7_tests_74 : decode cX7_tests 74 = .ok (.iload 5, 2) := by decide +kernel
theorem dX7_tests_76 : decode cX7_tests 76 = .ok (.invokevirtual 67, 3) := by decide +kernel
theorem dX7_tests_79 : decode cX7_tests 79 = .ok (.istore 8, 2) := by decide +kernel
theorem dX7_tests_81 : decode cX7_tests 81 = .ok (.iload 4, 2) := by decide +kernel
theorem dX7_tests_83 : decode cX7_tests 83 = .ok (.iload 8, 2) := by decide +kernel
theorem dX7_tests_85 : decode cX7_tests 85 = .ok (.iload_n 2, 1) := by decide +kernel
theorem dX7_tests_86 : decode cX7_tests 86 = .ok (.aload_n 0, 1) := by decide +kernel
theorem dX7_tests_87 : decode cX7_tests 87 = .ok (.iload_n 1, 1) := by decide +kernel
theorem dX7_tests_88 : decode cX7_tests 88 = .ok (.iconst 1, 1) := by decide +kernel
theorem dX7_tests_89 : decode cX7_tests 89 = .ok (.invokevirtual 64, 3) := by decide +kernel
theorem dX7_tests_92 : decode cX7_tests 92 = .ok (.invokestatic 70, 3) := by decide +kernel
theorem dX7_tests_95 : decode cX7_tests 95 = .ok (.istore 4, 2) := by decide +kernel
theorem dX7_tests_97 : decode cX7_tests 97 = .ok (.aload_n 0, 1) := by decide +kernel
theorem dX7_tests_98 : decode cX7_tests 98 = .ok (.getfield 28, 3) := by decide +kernel
theorem dX7_tests_101 : decode cX7_tests 101 = .ok (.iload 6, 2) := by decide +kernel
theorem dX7_tests_103 : decode cX7_tests 103 = .ok (.iload 4, 2) := by decide +kernel
theorem dX7_tests_105 : decode cX7_tests 105 = .ok (.aload_n 0, 1) := by decide +kernel
theorem dX7_tests_106 : decode cX7_tests 106 = .ok (.iload_n 1, 1) := by decide +kernel
theorem dX7_tests_107 : decode cX7_tests 107 = .ok (.iconst 2, 1) := by decide +kernel
theorem dX7_tests_108 : decode cX7_tests 108 = .ok (.invokevirtual 64, 3) := by decide +kernel
theorem dX7_tests_111 : decode cX7_tests 111 = .ok (.invokestatic 94, 3) := by decide +kernel
theorem dX7_tests_114 : decode cX7_tests 114 = .ok (.iastore, 1) := by decide +kernel
theorem dX7_tests_115 : decode cX7_tests 115 = .ok (.aload_n 0, 1) := by decide +kernel
theorem dX7_tests_116 : decode cX7_tests 116 = .ok (.getfield 28, 3) := by decide +kernel
theorem dX7_tests_119 : decode cX7_tests 119 = .ok (.iload 6, 2) := by decide +kernel
theorem dX7_tests_121 : decode cX7_tests 121 = .ok (.iaload, 1) := by decide +kernel
theorem dX7_tests_122 : decode cX7_tests 122 = .ok (.iload 8, 2) := by decide +kernel
theorem dX7_tests_124 : decode cX7_tests 124 = .ok (.isub, 1) := by decide +kernel
theorem dX7_tests_125 : decode cX7_tests 125 = .ok (.invokestatic 58, 3) := by decide +kernel
theorem dX7_tests_128 : decode cX7_tests 128 = .ok (.istore 9, 2) := by decide +kernel
theorem dX7_tests_130 : decode cX7_tests 130 = .ok (.aload_n 0, 1) := by decide +kernel
theorem dX7_tests_131 : decode cX7_tests 131 = .ok (.iload 9, 2) := by decide +kernel
theorem dX7_tests_133 : decode cX7_tests 133 = .ok (.aload_n 0, 1) := by decide +kernel
theorem dX7_tests_134 : decode cX7_tests 134 = .ok (.getfield 85, 3) := by decide +kernel
theorem dX7_tests_137 : decode cX7_tests 137 = .ok (.if_icmp .le 8, 3) := by decide +kernel
theorem dX7_tests_140 : decode cX7_tests 140 = .ok (.iload 6, 2) := by decide +kernel
theorem dX7_tests_142 : decode cX7_tests 142 = .ok (.goto 7, 3) := by decide +kernel
theorem dX7_tests_145 : decode cX7_tests 145 = .ok (.aload_n 0, 1) := by decide +kernel
theorem dX7_tests_146 : decode cX7_tests 146 = .ok (.getfield 88, 3) := by decide +kernel
theorem dX7_tests_149 : decode cX7_tests 149 = .ok (.putfield 88, 3) := by decide +kernel
theorem dX7_tests_152 : decode cX7_tests 152 = .ok (.aload_n 0, 1) := by decide +kernel
theorem dX7_tests_153 : decode cX7_tests 153 = .ok (.iload 9, 2) := by decide +kernel
theorem dX7_tests_155 : decode cX7_tests 155 = .ok (.aload_n 0, 1) := by decide +kernel
theorem dX7_tests_156 : decode cX7_tests 156 = .ok (.getfield 85, 3) := by decide +kernel
theorem dX7_tests_159 : decode cX7_tests 159 = .ok (.if_icmp .le 8, 3) := by decide +kernel
theorem dX7_tests_162 : decode cX7_tests 162 = .ok (.iload 9, 2) := by decide +kernel
theorem dX7_tests_164 : decode cX7_tests 164 = .ok (.goto 7, 3) := by decide +kernel
theorem dX7_tests_167 : decode cX7_tests 167 = .ok (.aload_n 0, 1) := by decide +kernel
theorem dX7_tests_168 : decode cX7_tests 168 = .ok (.getfield 85, 3) := by decide +kernel
theorem dX7_tests_171 : decode cX7_tests 171 = .ok (.putfield 85, 3) := by decide +kernel
theorem dX7_tests_174 : decode cX7_tests 174 = .ok (.iinc 6 1, 3) := by decide +kernel
theorem dX7_tests_177 : decode cX7_tests 177 = .ok (.goto (-147), 3) := by decide +kernel
theorem dX7_tests_180 : decode cX7_tests 180 = .ok (.return_, 1) := by decide +kernel
theorem dX7_isValue_0 : decode cX7_isValue 0 = .ok (.iload_n 0, 1) := by decide +kernel
theorem dX7_isValue_1 : decode cX7_isValue 1 = .ok (.ifCond .ne 13, 3) := by decide +kernel
theorem dX7_isValue_4 : decode cX7_isValue 4 = .ok (.iload_n 1, 1) := by decide +kernel
theorem dX7_isValue_5 : decode cX7_isValue 5 = .ok (.iconst 0, 1) := by decide +kernel
theorem dX7_isValue_6 : decode cX7_isValue 6 = .ok (.bipush 9, 2) := by decide +kernel
theorem dX7_isValue_8 : decode cX7_isValue 8 = .ok (.invokestatic 39, 3) := by decide +kernel
theorem dX7_isValue_11 : decode cX7_isValue 11 = .ok (.goto 39, 3) := by decide +kernel
theorem dX7_isValue_14 : decode cX7_isValue 14 = .ok (.iload_n 0, 1) := by decide +kernel
theorem dX7_isValue_15 : decode cX7_isValue 15 = .ok (.iconst 1, 1) := by decide +kernel
theorem dX7_isValue_16 : decode cX7_isValue 16 = .ok (.if_icmp .ne 13, 3) := by decide +kernel
theorem dX7_isValue_19 : decode cX7_isValue 19 = .ok (.iload_n 1, 1) := by decide +kernel
theorem dX7_isValue_20 : decode cX7_isValue 20 = .ok (.iconst 1, 1) := by decide +kernel
theorem dX7_isValue_21 : decode cX7_isValue 21 = .ok (.bipush 99, 2) := by decide +kernel
theorem dX7_isValue_23 : decode cX7_isValue 23 = .ok (.invokestatic 39, 3) := by decide +kernel
theorem dX7_isValue_26 : decode cX7_isValue 26 = .ok (.goto 24, 3) := by decide +kernel
theorem dX7_isValue_29 : decode cX7_isValue 29 = .ok (.iload_n 0, 1) := by decide +kernel
theorem dX7_isValue_30 : decode cX7_isValue 30 = .ok (.iconst 2, 1) := by decide +kernel
theorem dX7_isValue_31 : decode cX7_isValue 31 = .ok (.if_icmp .ne 18, 3) := by decide +kernel
theorem dX7_isValue_34 : decode cX7_isValue 34 = .ok (.iload_n 1, 1) := by decide +kernel
theorem dX7_isValue_35 : decode cX7_isValue 35 = .ok (.iconst 0, 1) := by decide +kernel
theorem dX7_isValue_36 : decode cX7_isValue 36 = .ok (.sipush 999, 3) := by decide +kernel
theorem dX7_isValue_39 : decode cX7_isValue 39 = .ok (.invokestatic 39, 3) := by decide +kernel
theorem dX7_isValue_42 : decode cX7_isValue 42 = .ok (.ifCond .eq 7, 3) := by decide +kernel
theorem dX7_isValue_45 : decode cX7_isValue 45 = .ok (.iconst 1, 1) := by decide +kernel
theorem dX7_isValue_46 : decode cX7_isValue 46 = .ok (.goto 4, 3) := by decide +kernel
theorem dX7_isValue_49 : decode cX7_isValue 49 = .ok (.iconst 0, 1) := by decide +kernel
theorem dX7_isValue_50 : decode cX7_isValue 50 = .ok (.ireturn, 1) := by decide +kernel
theorem dX7_sets_0 : decode cX7_sets 0 = .ok (.aload_n 0, 1) := by decide +kernel
theorem dX7_sets_1 : decode cX7_sets 1 = .ok (.getfield 7, 3) := by decide +kernel
theorem dX7_sets_4 : decode cX7_sets 4 = .ok (.iload_n 1, 1) := by decide +kernel
theorem dX7_sets_5 : decode cX7_sets 5 = .ok (.iaload, 1) := by decide +kernel
theorem dX7_sets_6 : decode cX7_sets 6 = .ok (.istore_n 3, 1) := by decide +kernel
theorem dX7_sets_7 : decode cX7_sets 7 = .ok (.aload_n 0, 1) := by decide +kernel
theorem dX7_sets_8 : decode cX7_sets 8 = .ok (.getfield 7, 3) := by decide +kernel
theorem dX7_sets_11 : decode cX7_sets 11 = .ok (.iload_n 1, 1) := by decide +kernel
theorem dX7_sets_12 : decode cX7_sets 12 = .ok (.iload_n 2, 1) := by decide +kernel
theorem dX7_sets_13 : decode cX7_sets 13 = .ok (.iastore, 1) := by decide +kernel
theorem dX7_sets_14 : decode cX7_sets 14 = .ok (.iload_n 1, 1) := by decide +kernel
theorem dX7_sets_15 : decode cX7_sets 15 = .ok (.iconst 1, 1) := by decide +kernel
theorem dX7_sets_16 : decode cX7_sets 16 = .ok (.if_icmp .ne 7, 3) := by decide +kernel
theorem dX7_sets_19 : decode cX7_sets 19 = .ok (.aload_n 0, 1) := by decide +kernel
theorem dX7_sets_20 : decode cX7_sets 20 = .ok (.invokevirtual 97, 3) := by decide +kernel
theorem dX7_sets_23 : decode cX7_sets 23 = .ok (.aload_n 0, 1) := by decide +kernel
theorem dX7_sets_24 : decode cX7_sets 24 = .ok (.invokevirtual 100, 3) := by decide +kernel
theorem dX7_sets_27 : decode cX7_sets 27 = .ok (.iload_n 3, 1) := by decide +kernel
theorem dX7_sets_28 : decode cX7_sets 28 = .ok (.ireturn, 1) := by decide +kernel
theorem dX7_set_0 : decode cX7_set 0 = .ok (.iload_n 1, 1) := by decide +kernel
theorem dX7_set_1 : decode cX7_set 1 = .ok (.iload_n 2, 1) := by decide +kernel
theorem dX7_set_2 : decode cX7_set 2 = .ok (.invokestatic 103, 3) := by decide +kernel
theorem dX7_set_5 : decode cX7_set 5 = .ok (.ifCond .ne 6, 3) := by decide +kernel
theorem dX7_set_8 : decode cX7_set 8 = .ok (.bipush (-2), 2) := by decide +kernel
theorem dX7_set_10 : decode cX7_set 10 = .ok (.ireturn, 1) := by decide +kernel
theorem dX7_set_11 : decode cX7_set 11 = .ok (.aload_n 0, 1) := by decide +kernel
theorem dX7_set_12 : decode cX7_set 12 = .ok (.invokevirtual 107, 3) := by decide +kernel
theorem dX7_set_15 : decode cX7_set 15 = .ok (.aload_n 0, 1) := by decide +kernel
theorem dX7_set_16 : decode cX7_set 16 = .ok (.iload_n 1, 1) := by decide +kernel
theorem dX7_set_17 : decode cX7_set 17 = .ok (.iload_n 2, 1) := by decide +kernel
theorem dX7_set_18 : decode cX7_set 18 = .ok (.invokevirtual 110, 3) := by decide +kernel
theorem dX7_set_21 : decode cX7_set 21 = .ok (.ireturn, 1) := by decide +kernel
theorem dX7_whyNoRing_0 : decode cX7_whyNoRing 0 = .ok (.iload_n 1, 1) := by decide +kernel
theorem dX7_whyNoRing_1 : decode cX7_whyNoRing 1 = .ok (.iconst 1, 1) := by decide +kernel
theorem dX7_whyNoRing_2 : decode cX7_whyNoRing 2 = .ok (.sipush 9999, 3) := by decide +kernel
theorem dX7_whyNoRing_5 : decode cX7_whyNoRing 5 = .ok (.invokestatic 39, 3) := by decide +kernel
theorem dX7_whyNoRing_8 : decode cX7_whyNoRing 8 = .ok (.ifCond .ne 8, 3) := by decide +kernel
theorem dX7_whyNoRing_11 : decode cX7_whyNoRing 11 = .ok (.bipush (-2), 2) := by decide +kernel
theorem dX7_whyNoRing_13 : decode cX7_whyNoRing 13 = .ok (.goto 20, 3) := by decide +kernel
theorem dX7_whyNoRing_16 : decode cX7_whyNoRing 16 = .ok (.aload_n 0, 1) := by decide +kernel
theorem dX7_whyNoRing_17 : decode cX7_whyNoRing 17 = .ok (.getfield 7, 3) := by decide +kernel
theorem dX7_whyNoRing_20 : decode cX7_whyNoRing 20 = .ok (.iconst 3, 1) := by decide +kernel
theorem dX7_whyNoRing_21 : decode cX7_whyNoRing 21 = .ok (.iaload, 1) := by decide +kernel
theorem dX7_whyNoRing_22 : decode cX7_whyNoRing 22 = .ok (.bipush 14, 2) := by decide +kernel
theorem dX7_whyNoRing_24 : decode cX7_whyNoRing 24 = .ok (.if_icmp .ne 8, 3) := by decide +kernel
theorem dX7_whyNoRing_27 : decode cX7_whyNoRing 27 = .ok (.bipush (-4), 2) := by decide +kernel
theorem dX7_whyNoRing_29 : decode cX7_whyNoRing 29 = .ok (.goto 4, 3) := by decide +kernel
theorem dX7_whyNoRing_32 : decode cX7_whyNoRing 32 = .ok (.iconst 0, 1) := by decide +kernel
theorem dX7_whyNoRing_33 : decode cX7_whyNoRing 33 = .ok (.ireturn, 1) := by decide +kernel
theorem dX7_comes_0 : decode cX7_comes 0 = .ok (.aload_n 0, 1) := by decide +kernel
theorem dX7_comes_1 : decode cX7_comes 1 = .ok (.getfield 7, 3) := by decide +kernel
theorem dX7_comes_4 : decode cX7_comes 4 = .ok (.bipush 6, 2) := by decide +kernel
theorem dX7_comes_6 : decode cX7_comes 6 = .ok (.aload_n 0, 1) := by decide +kernel
theorem dX7_comes_7 : decode cX7_comes 7 = .ok (.getfield 7, 3) := by decide +kernel
theorem dX7_comes_10 : decode cX7_comes 10 = .ok (.iconst 3, 1) := by decide +kernel
theorem dX7_comes_11 : decode cX7_comes 11 = .ok (.iaload, 1) := by decide +kernel
theorem dX7_comes_12 : decode cX7_comes 12 = .ok (.iadd, 1) := by decide +kernel
theorem dX7_comes_13 : decode cX7_comes 13 = .ok (.iload_n 1, 1) := by decide +kernel
theorem dX7_comes_14 : decode cX7_comes 14 = .ok (.iastore, 1) := by decide +kernel
theorem dX7_comes_15 : decode cX7_comes 15 = .ok (.aload_n 0, 1) := by decide +kernel
theorem dX7_comes_16 : decode cX7_comes 16 = .ok (.getfield 7, 3) := by decide +kernel
theorem dX7_comes_19 : decode cX7_comes 19 = .ok (.iconst 3, 1) := by decide +kernel
theorem dX7_comes_20 : decode cX7_comes 20 = .ok (.dup2, 1) := by decide +kernel
theorem dX7_comes_21 : decode cX7_comes 21 = .ok (.iaload, 1) := by decide +kernel
theorem dX7_comes_22 : decode cX7_comes 22 = .ok (.iconst 1, 1) := by decide +kernel
theorem dX7_comes_23 : decode cX7_comes 23 = .ok (.iadd, 1) := by decide +kernel
theorem dX7_comes_24 : decode cX7_comes 24 = .ok (.iastore, 1) := by decide +kernel
theorem dX7_comes_25 : decode cX7_comes 25 = .ok (.aload_n 0, 1) := by decide +kernel
theorem dX7_comes_26 : decode cX7_comes 26 = .ok (.invokevirtual 97, 3) := by decide +kernel
theorem dX7_comes_29 : decode cX7_comes 29 = .ok (.aload_n 0, 1) := by decide +kernel
theorem dX7_comes_30 : decode cX7_comes 30 = .ok (.getfield 7, 3) := by decide +kernel
theorem dX7_comes_33 : decode cX7_comes 33 = .ok (.iconst 3, 1) := by decide +kernel
theorem dX7_comes_34 : decode cX7_comes 34 = .ok (.iaload, 1) := by decide +kernel
theorem dX7_comes_35 : decode cX7_comes 35 = .ok (.iconst 1, 1) := by decide +kernel
theorem dX7_comes_36 : decode cX7_comes 36 = .ok (.isub, 1) := by decide +kernel
theorem dX7_comes_37 : decode cX7_comes 37 = .ok (.ireturn, 1) := by decide +kernel
theorem dX7_ring_0 : decode cX7_ring 0 = .ok (.aload_n 0, 1) := by decide +kernel
theorem dX7_ring_1 : decode cX7_ring 1 = .ok (.iload_n 1, 1) := by decide +kernel
theorem dX7_ring_2 : decode cX7_ring 2 = .ok (.invokevirtual 113, 3) := by decide +kernel
theorem dX7_ring_5 : decode cX7_ring 5 = .ok (.istore_n 2, 1) := by decide +kernel
theorem dX7_ring_6 : decode cX7_ring 6 = .ok (.iload_n 2, 1) := by decide +kernel
theorem dX7_ring_7 : decode cX7_ring 7 = .ok (.ifCond .ge 5, 3) := by decide +kernel
theorem dX7_ring_10 : decode cX7_ring 10 = .ok (.iload_n 2, 1) := by decide +kernel
theorem dX7_ring_11 : decode cX7_ring 11 = .ok (.ireturn, 1) := by decide +kernel
theorem dX7_ring_12 : decode cX7_ring 12 = .ok (.aload_n 0, 1) := by decide +kernel
theorem dX7_ring_13 : decode cX7_ring 13 = .ok (.invokevirtual 107, 3) := by decide +kernel
theorem dX7_ring_16 : decode cX7_ring 16 = .ok (.aload_n 0, 1) := by decide +kernel
theorem dX7_ring_17 : decode cX7_ring 17 = .ok (.iload_n 1, 1) := by decide +kernel
theorem dX7_ring_18 : decode cX7_ring 18 = .ok (.invokevirtual 116, 3) := by decide +kernel
theorem dX7_ring_21 : decode cX7_ring 21 = .ok (.ireturn, 1) := by decide +kernel
theorem dX7_lose_0 : decode cX7_lose 0 = .ok (.aload_n 0, 1) := by decide +kernel
theorem dX7_lose_1 : decode cX7_lose 1 = .ok (.getfield 7, 3) := by decide +kernel
theorem dX7_lose_4 : decode cX7_lose 4 = .ok (.iconst 3, 1) := by decide +kernel
theorem dX7_lose_5 : decode cX7_lose 5 = .ok (.iaload, 1) := by decide +kernel
theorem dX7_lose_6 : decode cX7_lose 6 = .ok (.ifCond .ne 6, 3) := by decide +kernel
theorem dX7_lose_9 : decode cX7_lose 9 = .ok (.bipush (-5), 2) := by decide +kernel
theorem dX7_lose_11 : decode cX7_lose 11 = .ok (.ireturn, 1) := by decide +kernel
theorem dX7_lose_12 : decode cX7_lose 12 = .ok (.aload_n 0, 1) := by decide +kernel
theorem dX7_lose_13 : decode cX7_lose 13 = .ok (.invokevirtual 107, 3) := by decide +kernel
theorem dX7_lose_16 : decode cX7_lose 16 = .ok (.aload_n 0, 1) := by decide +kernel
theorem dX7_lose_17 : decode cX7_lose 17 = .ok (.getfield 7, 3) := by decide +kernel
theorem dX7_lose_20 : decode cX7_lose 20 = .ok (.iconst 3, 1) := by decide +kernel
theorem dX7_lose_21 : decode cX7_lose 21 = .ok (.dup2, 1) := by decide +kernel
theorem dX7_lose_22 : decode cX7_lose 22 = .ok (.iaload, 1) := by decide +kernel
theorem dX7_lose_23 : decode cX7_lose 23 = .ok (.iconst 1, 1) := by decide +kernel
theorem dX7_lose_24 : decode cX7_lose 24 = .ok (.isub, 1) := by decide +kernel
theorem dX7_lose_25 : decode cX7_lose 25 = .ok (.iastore, 1) := by decide +kernel
theorem dX7_lose_26 : decode cX7_lose 26 = .ok (.aload_n 0, 1) := by decide +kernel
theorem dX7_lose_27 : decode cX7_lose 27 = .ok (.getfield 7, 3) := by decide +kernel
theorem dX7_lose_30 : decode cX7_lose 30 = .ok (.iconst 3, 1) := by decide +kernel
theorem dX7_lose_31 : decode cX7_lose 31 = .ok (.iaload, 1) := by decide +kernel
theorem dX7_lose_32 : decode cX7_lose 32 = .ok (.istore_n 1, 1) := by decide +kernel
theorem dX7_lose_33 : decode cX7_lose 33 = .ok (.aload_n 0, 1) := by decide +kernel
theorem dX7_lose_34 : decode cX7_lose 34 = .ok (.getfield 7, 3) := by decide +kernel
theorem dX7_lose_37 : decode cX7_lose 37 = .ok (.bipush 6, 2) := by decide +kernel
theorem dX7_lose_39 : decode cX7_lose 39 = .ok (.iload_n 1, 1) := by decide +kernel
theorem dX7_lose_40 : decode cX7_lose 40 = .ok (.iadd, 1) := by decide +kernel
theorem dX7_lose_41 : decode cX7_lose 41 = .ok (.iaload, 1) := by decide +kernel
theorem dX7_lose_42 : decode cX7_lose 42 = .ok (.istore_n 2, 1) := by decide +kernel
theorem dX7_lose_43 : decode cX7_lose 43 = .ok (.aload_n 0, 1) := by decide +kernel
theorem dX7_lose_44 : decode cX7_lose 44 = .ok (.getfield 7, 3) := by decide +kernel
theorem dX7_lose_47 : decode cX7_lose 47 = .ok (.bipush 6, 2) := by decide +kernel
theorem dX7_lose_49 : decode cX7_lose 49 = .ok (.iload_n 1, 1) := by decide +kernel
theorem dX7_lose_50 : decode cX7_lose 50 = .ok (.iadd, 1) := by decide +kernel
theorem dX7_lose_51 : decode cX7_lose 51 = .ok (.iconst 0, 1) := by decide +kernel
theorem dX7_lose_52 : decode cX7_lose 52 = .ok (.iastore, 1) := by decide +kernel
theorem dX7_lose_53 : decode cX7_lose 53 = .ok (.aload_n 0, 1) := by decide +kernel
theorem dX7_lose_54 : decode cX7_lose 54 = .ok (.getfield 7, 3) := by decide +kernel
theorem dX7_lose_57 : decode cX7_lose 57 = .ok (.iconst 4, 1) := by decide +kernel
theorem dX7_lose_58 : decode cX7_lose 58 = .ok (.dup2, 1) := by decide +kernel
theorem dX7_lose_59 : decode cX7_lose 59 = .ok (.iaload, 1) := by decide +kernel
theorem dX7_lose_60 : decode cX7_lose 60 = .ok (.iconst 1, 1) := by decide +kernel
theorem dX7_lose_61 : decode cX7_lose 61 = .ok (.iload_n 1, 1) := by decide +kernel
theorem dX7_lose_62 : decode cX7_lose 62 = .ok (.ishl, 1) := by decide +kernel
theorem dX7_lose_63 : decode cX7_lose 63 = .ok (.iconst (-1), 1) := by decide +kernel
theorem dX7_lose_64 : decode cX7_lose 64 = .ok (.ixor, 1) := by decide +kernel
theorem dX7_lose_65 : decode cX7_lose 65 = .ok (.iand, 1) := by decide +kernel
theorem dX7_lose_66 : decode cX7_lose 66 = .ok (.iastore, 1) := by decide +kernel
theorem dX7_lose_67 : decode cX7_lose 67 = .ok (.aload_n 0, 1) := by decide +kernel
theorem dX7_lose_68 : decode cX7_lose 68 = .ok (.invokevirtual 97, 3) := by decide +kernel
theorem dX7_lose_71 : decode cX7_lose 71 = .ok (.aload_n 0, 1) := by decide +kernel
theorem dX7_lose_72 : decode cX7_lose 72 = .ok (.invokevirtual 100, 3) := by decide +kernel
theorem dX7_lose_75 : decode cX7_lose 75 = .ok (.iload_n 2, 1) := by decide +kernel
theorem dX7_lose_76 : decode cX7_lose 76 = .ok (.ireturn, 1) := by decide +kernel
theorem dX7_whyNotMoved_0 : decode cX7_whyNotMoved 0 = .ok (.aload_n 0, 1) := by decide +kernel
theorem dX7_whyNotMoved_1 : decode cX7_whyNotMoved 1 = .ok (.iload_n 1, 1) := by decide +kernel
theorem dX7_whyNotMoved_2 : decode cX7_whyNotMoved 2 = .ok (.invokevirtual 119, 3) := by decide +kernel
theorem dX7_whyNotMoved_5 : decode cX7_whyNotMoved 5 = .ok (.ifCond .ne 7, 3) := by decide +kernel
theorem dX7_whyNotMoved_8 : decode cX7_whyNotMoved 8 = .ok (.iconst (-1), 1) := by decide +kernel
theorem dX7_whyNotMoved_9 : decode cX7_whyNotMoved 9 = .ok (.goto 18, 3) := by decide +kernel
theorem dX7_whyNotMoved_12 : decode cX7_whyNotMoved 12 = .ok (.aload_n 0, 1) := by decide +kernel
theorem dX7_whyNotMoved_13 : decode cX7_whyNotMoved 13 = .ok (.iload_n 1, 1) := by decide +kernel
theorem dX7_whyNotMoved_14 : decode cX7_whyNotMoved 14 = .ok (.invokevirtual 123, 3) := by decide +kernel
theorem dX7_whyNotMoved_17 : decode cX7_whyNotMoved 17 = .ok (.iload_n 2, 1) := by decide +kernel
theorem dX7_whyNotMoved_18 : decode cX7_whyNotMoved 18 = .ok (.if_icmp .ne 7, 3) := by decide +kernel
theorem dX7_whyNotMoved_21 : decode cX7_whyNotMoved 21 = .ok (.iconst 0, 1) := by decide +kernel
theorem dX7_whyNotMoved_22 : decode cX7_whyNotMoved 22 = .ok (.goto 5, 3) := by decide +kernel
theorem dX7_whyNotMoved_25 : decode cX7_whyNotMoved 25 = .ok (.bipush (-5), 2) := by decide +kernel
theorem dX7_whyNotMoved_27 : decode cX7_whyNotMoved 27 = .ok (.ireturn, 1) := by decide +kernel
theorem dX7_isMoved_0 : decode cX7_isMoved 0 = .ok (.aload_n 0, 1) := by decide +kernel
theorem dX7_isMoved_1 : decode cX7_isMoved 1 = .ok (.getfield 7, 3) := by decide +kernel
theorem dX7_isMoved_4 : decode cX7_isMoved 4 = .ok (.iconst 4, 1) := by decide +kernel
theorem dX7_isMoved_5 : decode cX7_isMoved 5 = .ok (.dup2, 1) := by decide +kernel
theorem dX7_isMoved_6 : decode cX7_isMoved 6 = .ok (.iaload, 1) := by decide +kernel
theorem dX7_isMoved_7 : decode cX7_isMoved 7 = .ok (.iconst 1, 1) := by decide +kernel
theorem dX7_isMoved_8 : decode cX7_isMoved 8 = .ok (.iload_n 1, 1) := by decide +kernel
theorem dX7_isMoved_9 : decode cX7_isMoved 9 = .ok (.ishl, 1) := by decide +kernel
theorem dX7_isMoved_10 : decode cX7_isMoved 10 = .ok (.ixor, 1) := by decide +kernel
theorem dX7_isMoved_11 : decode cX7_isMoved 11 = .ok (.iastore, 1) := by decide +kernel
theorem dX7_isMoved_12 : decode cX7_isMoved 12 = .ok (.aload_n 0, 1) := by decide +kernel
theorem dX7_isMoved_13 : decode cX7_isMoved 13 = .ok (.invokevirtual 100, 3) := by decide +kernel
theorem dX7_isMoved_16 : decode cX7_isMoved 16 = .ok (.aload_n 0, 1) := by decide +kernel
theorem dX7_isMoved_17 : decode cX7_isMoved 17 = .ok (.aload_n 0, 1) := by decide +kernel
theorem dX7_isMoved_18 : decode cX7_isMoved 18 = .ok (.getfield 7, 3) := by decide +kernel
theorem dX7_isMoved_21 : decode cX7_isMoved 21 = .ok (.iconst 4, 1) := by decide +kernel
theorem dX7_isMoved_22 : decode cX7_isMoved 22 = .ok (.iaload, 1) := by decide +kernel
theorem dX7_isMoved_23 : decode cX7_isMoved 23 = .ok (.invokevirtual 67, 3) := by decide +kernel
theorem dX7_isMoved_26 : decode cX7_isMoved 26 = .ok (.ireturn, 1) := by decide +kernel
theorem dX7_stack_0 : decode cX7_stack 0 = .ok (.aload_n 0, 1) := by decide +kernel
theorem dX7_stack_1 : decode cX7_stack 1 = .ok (.iload_n 1, 1) := by decide +kernel
theorem dX7_stack_2 : decode cX7_stack 2 = .ok (.iconst 0, 1) := by decide +kernel
theorem dX7_stack_3 : decode cX7_stack 3 = .ok (.invokevirtual 126, 3) := by decide +kernel
theorem dX7_stack_6 : decode cX7_stack 6 = .ok (.istore_n 2, 1) := by decide +kernel
theorem dX7_stack_7 : decode cX7_stack 7 = .ok (.iload_n 2, 1) := by decide +kernel
theorem dX7_stack_8 : decode cX7_stack 8 = .ok (.ifCond .ge 5, 3) := by decide +kernel
theorem dX7_stack_11 : decode cX7_stack 11 = .ok (.iload_n 2, 1) := by decide +kernel
theorem dX7_stack_12 : decode cX7_stack 12 = .ok (.ireturn, 1) := by decide +kernel
theorem dX7_stack_13 : decode cX7_stack 13 = .ok (.aload_n 0, 1) := by decide +kernel
theorem dX7_stack_14 : decode cX7_stack 14 = .ok (.invokevirtual 107, 3) := by decide +kernel
theorem dX7_stack_17 : decode cX7_stack 17 = .ok (.aload_n 0, 1) := by decide +kernel
theorem dX7_stack_18 : decode cX7_stack 18 = .ok (.iload_n 1, 1) := by decide +kernel
theorem dX7_stack_19 : decode cX7_stack 19 = .ok (.invokevirtual 130, 3) := by decide +kernel
theorem dX7_stack_22 : decode cX7_stack 22 = .ok (.ireturn, 1) := by decide +kernel
theorem dX7_take_0 : decode cX7_take 0 = .ok (.aload_n 0, 1) := by decide +kernel
theorem dX7_take_1 : decode cX7_take 1 = .ok (.iload_n 1, 1) := by decide +kernel
theorem dX7_take_2 : decode cX7_take 2 = .ok (.iconst 1, 1) := by decide +kernel
theorem dX7_take_3 : decode cX7_take 3 = .ok (.invokevirtual 126, 3) := by decide +kernel
theorem dX7_take_6 : decode cX7_take 6 = .ok (.istore_n 2, 1) := by decide +kernel
theorem dX7_take_7 : decode cX7_take 7 = .ok (.iload_n 2, 1) := by decide +kernel
theorem dX7_take_8 : decode cX7_take 8 = .ok (.ifCond .ge 5, 3) := by decide +kernel
theorem dX7_take_11 : decode cX7_take 11 = .ok (.iload_n 2, 1) := by decide +kernel
theorem dX7_take_12 : decode cX7_take 12 = .ok (.ireturn, 1) := by decide +kernel
theorem dX7_take_13 : decode cX7_take 13 = .ok (.aload_n 0, 1) := by decide +kernel
theorem dX7_take_14 : decode cX7_take 14 = .ok (.invokevirtual 107, 3) := by decide +kernel
theorem dX7_take_17 : decode cX7_take 17 = .ok (.aload_n 0, 1) := by decide +kernel
theorem dX7_take_18 : decode cX7_take 18 = .ok (.iload_n 1, 1) := by decide +kernel
theorem dX7_take_19 : decode cX7_take 19 = .ok (.invokevirtual 130, 3) := by decide +kernel
theorem dX7_take_22 : decode cX7_take 22 = .ok (.ireturn, 1) := by decide +kernel
theorem dX7_isError_0 : decode cX7_isError 0 = .ok (.iload_n 0, 1) := by decide +kernel
theorem dX7_isError_1 : decode cX7_isError 1 = .ok (.bipush (-99), 2) := by decide +kernel
theorem dX7_isError_3 : decode cX7_isError 3 = .ok (.bipush 99, 2) := by decide +kernel
theorem dX7_isError_5 : decode cX7_isError 5 = .ok (.invokestatic 39, 3) := by decide +kernel
theorem dX7_isError_8 : decode cX7_isError 8 = .ok (.ireturn, 1) := by decide +kernel
theorem dX7_whyNoGauge_0 : decode cX7_whyNoGauge 0 = .ok (.iload_n 1, 1) := by decide +kernel
theorem dX7_whyNoGauge_1 : decode cX7_whyNoGauge 1 = .ok (.invokestatic 133, 3) := by decide +kernel
theorem dX7_whyNoGauge_4 : decode cX7_whyNoGauge 4 = .ok (.ifCond .eq 23, 3) := by decide +kernel
theorem dX7_whyNoGauge_7 : decode cX7_whyNoGauge 7 = .ok (.iload_n 2, 1) := by decide +kernel
theorem dX7_whyNoGauge_8 : decode cX7_whyNoGauge 8 = .ok (.iconst 0, 1) := by decide +kernel
theorem dX7_whyNoGauge_9 : decode cX7_whyNoGauge 9 = .ok (.bipush 99, 2) := by decide +kernel
theorem dX7_whyNoGauge_11 : decode cX7_whyNoGauge 11 = .ok (.invokestatic 39, 3) := by decide +kernel
theorem dX7_whyNoGauge_14 : decode cX7_whyNoGauge 14 = .ok (.ifCond .eq 13, 3) := by decide +kernel
theorem dX7_whyNoGauge_17 : decode cX7_whyNoGauge 17 = .ok (.iload_n 3, 1) := by decide +kernel
theorem dX7_whyNoGauge_18 : decode cX7_whyNoGauge 18 = .ok (.iconst 1, 1) := by decide +kernel
theorem dX7_whyNoGauge_19 : decode cX7_whyNoGauge 19 = .ok (.bipush 99, 2) := by decide +kernel
theorem dX7_whyNoGauge_21 : decode cX7_whyNoGauge 21 = .ok (.invokestatic 39, 3) := by decide +kernel
theorem dX7_whyNoGauge_24 : decode cX7_whyNoGauge 24 = .ok (.ifCond .ne 6, 3) := by decide +kernel
theorem dX7_whyNoGauge_27 : decode cX7_whyNoGauge 27 = .ok (.bipush (-2), 2) := by decide +kernel
theorem dX7_whyNoGauge_29 : decode cX7_whyNoGauge 29 = .ok (.ireturn, 1) := by decide +kernel
theorem dX7_whyNoGauge_30 : decode cX7_whyNoGauge 30 = .ok (.aload_n 0, 1) := by decide +kernel
theorem dX7_whyNoGauge_31 : decode cX7_whyNoGauge 31 = .ok (.getfield 7, 3) := by decide +kernel
theorem dX7_whyNoGauge_34 : decode cX7_whyNoGauge 34 = .ok (.iconst 5, 1) := by decide +kernel
theorem dX7_whyNoGauge_35 : decode cX7_whyNoGauge 35 = .ok (.iaload, 1) := by decide +kernel
theorem dX7_whyNoGauge_36 : decode cX7_whyNoGauge 36 = .ok (.bipush 6, 2) := by decide +kernel
theorem dX7_whyNoGauge_38 : decode cX7_whyNoGauge 38 = .ok (.if_icmp .ne 8, 3) := by decide +kernel
theorem dX7_whyNoGauge_41 : decode cX7_whyNoGauge 41 = .ok (.bipush (-4), 2) := by decide +kernel
theorem dX7_whyNoGauge_43 : decode cX7_whyNoGauge 43 = .ok (.goto 4, 3) := by decide +kernel
theorem dX7_whyNoGauge_46 : decode cX7_whyNoGauge 46 = .ok (.iconst 0, 1) := by decide +kernel
theorem dX7_whyNoGauge_47 : decode cX7_whyNoGauge 47 = .ok (.ireturn, 1) := by decide +kernel
theorem dX7_comesGauge_0 : decode cX7_comesGauge 0 = .ok (.aload_n 0, 1) := by decide +kernel
theorem dX7_comesGauge_1 : decode cX7_comesGauge 1 = .ok (.getfield 7, 3) := by decide +kernel
theorem dX7_comesGauge_4 : decode cX7_comesGauge 4 = .ok (.iconst 5, 1) := by decide +kernel
theorem dX7_comesGauge_5 : decode cX7_comesGauge 5 = .ok (.iaload, 1) := by decide +kernel
theorem dX7_comesGauge_6 : decode cX7_comesGauge 6 = .ok (.istore 4, 2) := by decide +kernel
theorem dX7_comesGauge_8 : decode cX7_comesGauge 8 = .ok (.iconst 0, 1) := by decide +kernel
theorem dX7_comesGauge_9 : decode cX7_comesGauge 9 = .ok (.istore 5, 2) := by decide +kernel
theorem dX7_comesGauge_11 : decode cX7_comesGauge 11 = .ok (.iload 5, 2) := by decide +kernel
theorem dX7_comesGauge_13 : decode cX7_comesGauge 13 = .ok (.bipush 36, 2) := by decide +kernel
theorem dX7_comesGauge_15 : decode cX7_comesGauge 15 = .ok (.if_icmp .ge 18, 3) := by decide +kernel
theorem dX7_comesGauge_18 : decode cX7_comesGauge 18 = .ok (.aload_n 0, 1) := by decide +kernel
theorem dX7_comesGauge_19 : decode cX7_comesGauge 19 = .ok (.iload 4, 2) := by decide +kernel
theorem dX7_comesGauge_21 : decode cX7_comesGauge 21 = .ok (.iload 5, 2) := by decide +kernel
theorem dX7_comesGauge_23 : decode cX7_comesGauge 23 = .ok (.iconst 0, 1) := by decide +kernel
theorem dX7_comesGauge_24 : decode cX7_comesGauge 24 = .ok (.invokevirtual 74, 3) := by decide +kernel
theorem dX7_comesGauge_27 : decode cX7_comesGauge 27 = .ok (.iinc 5 1, 3) := by decide +kernel
theorem dX7_comesGauge_30 : decode cX7_comesGauge 30 = .ok (.goto (-19), 3) := by decide +kernel
theorem dX7_comesGauge_33 : decode cX7_comesGauge 33 = .ok (.aload_n 0, 1) := by decide +kernel
theorem dX7_comesGauge_34 : decode cX7_comesGauge 34 = .ok (.iload 4, 2) := by decide +kernel
theorem dX7_comesGauge_36 : decode cX7_comesGauge 36 = .ok (.iconst 0, 1) := by decide +kernel
theorem dX7_comesGauge_37 : decode cX7_comesGauge 37 = .ok (.iload_n 1, 1) := by decide +kernel
theorem dX7_comesGauge_38 : decode cX7_comesGauge 38 = .ok (.invokevirtual 74, 3) := by decide +kernel
theorem dX7_comesGauge_41 : decode cX7_comesGauge 41 = .ok (.aload_n 0, 1) := by decide +kernel
theorem dX7_comesGauge_42 : decode cX7_comesGauge 42 = .ok (.iload 4, 2) := by decide +kernel
theorem dX7_comesGauge_44 : decode cX7_comesGauge 44 = .ok (.iconst 1, 1) := by decide +kernel
theorem dX7_comesGauge_45 : decode cX7_comesGauge 45 = .ok (.iload_n 2, 1) := by decide +kernel
theorem dX7_comesGauge_46 : decode cX7_comesGauge 46 = .ok (.invokevirtual 74, 3) := by decide +kernel
theorem dX7_comesGauge_49 : decode cX7_comesGauge 49 = .ok (.aload_n 0, 1) := by decide +kernel
theorem dX7_comesGauge_50 : decode cX7_comesGauge 50 = .ok (.iload 4, 2) := by decide +kernel
theorem dX7_comesGauge_52 : decode cX7_comesGauge 52 = .ok (.iconst 2, 1) := by decide +kernel
theorem dX7_comesGauge_53 : decode cX7_comesGauge 53 = .ok (.iload_n 3, 1) := by decide +kernel
theorem dX7_comesGauge_54 : decode cX7_comesGauge 54 = .ok (.invokevirtual 74, 3) := by decide +kernel
theorem dX7_comesGauge_57 : decode cX7_comesGauge 57 = .ok (.aload_n 0, 1) := by decide +kernel
theorem dX7_comesGauge_58 : decode cX7_comesGauge 58 = .ok (.getfield 7, 3) := by decide +kernel
theorem dX7_comesGauge_61 : decode cX7_comesGauge 61 = .ok (.iconst 5, 1) := by decide +kernel
theorem dX7_comesGauge_62 : decode cX7_comesGauge 62 = .ok (.dup2, 1) := by decide +kernel
theorem dX7_comesGauge_63 : decode cX7_comesGauge 63 = .ok (.iaload, 1) := by decide +kernel
theorem dX7_comesGauge_64 : decode cX7_comesGauge 64 = .ok (.iconst 1, 1) := by decide +kernel
theorem dX7_comesGauge_65 : decode cX7_comesGauge 65 = .ok (.iadd, 1) := by decide +kernel
theorem dX7_comesGauge_66 : decode cX7_comesGauge 66 = .ok (.iastore, 1) := by decide +kernel
theorem dX7_comesGauge_67 : decode cX7_comesGauge 67 = .ok (.aload_n 0, 1) := by decide +kernel
theorem dX7_comesGauge_68 : decode cX7_comesGauge 68 = .ok (.iload 4, 2) := by decide +kernel
theorem dX7_comesGauge_70 : decode cX7_comesGauge 70 = .ok (.invokevirtual 78, 3) := by decide +kernel
theorem dX7_comesGauge_73 : decode cX7_comesGauge 73 = .ok (.iload 4, 2) := by decide +kernel
theorem dX7_comesGauge_75 : decode cX7_comesGauge 75 = .ok (.ireturn, 1) := by decide +kernel
theorem dX7_gauge_0 : decode cX7_gauge 0 = .ok (.aload_n 0, 1) := by decide +kernel
theorem dX7_gauge_1 : decode cX7_gauge 1 = .ok (.iload_n 1, 1) := by decide +kernel
theorem dX7_gauge_2 : decode cX7_gauge 2 = .ok (.iload_n 2, 1) := by decide +kernel
theorem dX7_gauge_3 : decode cX7_gauge 3 = .ok (.iload_n 3, 1) := by decide +kernel
theorem dX7_gauge_4 : decode cX7_gauge 4 = .ok (.invokevirtual 136, 3) := by decide +kernel
theorem dX7_gauge_7 : decode cX7_gauge 7 = .ok (.istore 4, 2) := by decide +kernel
theorem dX7_gauge_9 : decode cX7_gauge 9 = .ok (.iload 4, 2) := by decide +kernel
theorem dX7_gauge_11 : decode cX7_gauge 11 = .ok (.ifCond .ge 6, 3) := by decide +kernel
theorem dX7_gauge_14 : decode cX7_gauge 14 = .ok (.iload 4, 2) := by decide +kernel
theorem dX7_gauge_16 : decode cX7_gauge 16 = .ok (.ireturn, 1) := by decide +kernel
theorem dX7_gauge_17 : decode cX7_gauge 17 = .ok (.aload_n 0, 1) := by decide +kernel
theorem dX7_gauge_18 : decode cX7_gauge 18 = .ok (.invokevirtual 107, 3) := by decide +kernel
theorem dX7_gauge_21 : decode cX7_gauge 21 = .ok (.aload_n 0, 1) := by decide +kernel
theorem dX7_gauge_22 : decode cX7_gauge 22 = .ok (.iload_n 1, 1) := by decide +kernel
theorem dX7_gauge_23 : decode cX7_gauge 23 = .ok (.iload_n 2, 1) := by decide +kernel
theorem dX7_gauge_24 : decode cX7_gauge 24 = .ok (.iload_n 3, 1) := by decide +kernel
theorem dX7_gauge_25 : decode cX7_gauge 25 = .ok (.invokevirtual 140, 3) := by decide +kernel
theorem dX7_gauge_28 : decode cX7_gauge 28 = .ok (.ireturn, 1) := by decide +kernel
theorem dX7_tune_0 : decode cX7_tune 0 = .ok (.aload_n 0, 1) := by decide +kernel
theorem dX7_tune_1 : decode cX7_tune 1 = .ok (.iload_n 1, 1) := by decide +kernel
theorem dX7_tune_2 : decode cX7_tune 2 = .ok (.invokevirtual 143, 3) := by decide +kernel
theorem dX7_tune_5 : decode cX7_tune 5 = .ok (.ifCond .eq 10, 3) := by decide +kernel
theorem dX7_tune_8 : decode cX7_tune 8 = .ok (.iload_n 2, 1) := by decide +kernel
theorem dX7_tune_9 : decode cX7_tune 9 = .ok (.invokestatic 133, 3) := by decide +kernel
theorem dX7_tune_12 : decode cX7_tune 12 = .ok (.ifCond .ne 18, 3) := by decide +kernel
theorem dX7_tune_15 : decode cX7_tune 15 = .ok (.aload_n 0, 1) := by decide +kernel
theorem dX7_tune_16 : decode cX7_tune 16 = .ok (.iload_n 1, 1) := by decide +kernel
theorem dX7_tune_17 : decode cX7_tune 17 = .ok (.invokevirtual 143, 3) := by decide +kernel
theorem dX7_tune_20 : decode cX7_tune 20 = .ok (.ifCond .eq 8, 3) := by decide +kernel
theorem dX7_tune_23 : decode cX7_tune 23 = .ok (.bipush (-2), 2) := by decide +kernel
theorem dX7_tune_25 : decode cX7_tune 25 = .ok (.goto 4, 3) := by decide +kernel
theorem dX7_tune_28 : decode cX7_tune 28 = .ok (.iconst (-1), 1) := by decide +kernel
theorem dX7_tune_29 : decode cX7_tune 29 = .ok (.ireturn, 1) := by decide +kernel
theorem dX7_tune_30 : decode cX7_tune 30 = .ok (.aload_n 0, 1) := by decide +kernel
theorem dX7_tune_31 : decode cX7_tune 31 = .ok (.invokevirtual 107, 3) := by decide +kernel
theorem dX7_tune_34 : decode cX7_tune 34 = .ok (.aload_n 0, 1) := by decide +kernel
theorem dX7_tune_35 : decode cX7_tune 35 = .ok (.iload_n 1, 1) := by decide +kernel
theorem dX7_tune_36 : decode cX7_tune 36 = .ok (.iconst 0, 1) := by decide +kernel
theorem dX7_tune_37 : decode cX7_tune 37 = .ok (.invokevirtual 64, 3) := by decide +kernel
theorem dX7_tune_40 : decode cX7_tune 40 = .ok (.istore_n 3, 1) := by decide +kernel
theorem dX7_tune_41 : decode cX7_tune 41 = .ok (.aload_n 0, 1) := by decide +kernel
theorem dX7_tune_42 : decode cX7_tune 42 = .ok (.iload_n 1, 1) := by decide +kernel
theorem dX7_tune_43 : decode cX7_tune 43 = .ok (.iconst 0, 1) := by decide +kernel
theorem dX7_tune_44 : decode cX7_tune 44 = .ok (.iload_n 2, 1) := by decide +kernel
theorem dX7_tune_45 : decode cX7_tune 45 = .ok (.invokevirtual 74, 3) := by decide +kernel
theorem dX7_tune_48 : decode cX7_tune 48 = .ok (.aload_n 0, 1) := by decide +kernel
theorem dX7_tune_49 : decode cX7_tune 49 = .ok (.iload_n 1, 1) := by decide +kernel
theorem dX7_tune_50 : decode cX7_tune 50 = .ok (.invokevirtual 82, 3) := by decide +kernel
theorem dX7_tune_53 : decode cX7_tune 53 = .ok (.aload_n 0, 1) := by decide +kernel
theorem dX7_tune_54 : decode cX7_tune 54 = .ok (.iload_n 1, 1) := by decide +kernel
theorem dX7_tune_55 : decode cX7_tune 55 = .ok (.invokevirtual 78, 3) := by decide +kernel
theorem dX7_tune_58 : decode cX7_tune 58 = .ok (.iload_n 3, 1) := by decide +kernel
theorem dX7_tune_59 : decode cX7_tune 59 = .ok (.bipush 100, 2) := by decide +kernel
theorem dX7_tune_61 : decode cX7_tune 61 = .ok (.iadd, 1) := by decide +kernel
theorem dX7_tune_62 : decode cX7_tune 62 = .ok (.ireturn, 1) := by decide +kernel
theorem dX7_whyNotCertified_0 : decode cX7_whyNotCertified 0 = .ok (.aload_n 0, 1) := by decide +kernel
theorem dX7_whyNotCertified_1 : decode cX7_whyNotCertified 1 = .ok (.iload_n 1, 1) := by decide +kernel
theorem dX7_whyNotCertified_2 : decode cX7_whyNotCertified 2 = .ok (.invokevirtual 143, 3) := by decide +kernel
theorem dX7_whyNotCertified_5 : decode cX7_whyNotCertified 5 = .ok (.ifCond .ne 7, 3) := by decide +kernel
theorem dX7_whyNotCertified_8 : decode cX7_whyNotCertified 8 = .ok (.iconst (-1), 1) := by decide +kernel
theorem dX7_whyNotCertified_9 : decode cX7_whyNotCertified 9 = .ok (.goto 18, 3) := by decide +kernel
theorem dX7_whyNotCertified_12 : decode cX7_whyNotCertified 12 = .ok (.aload_n 0, 1) := by decide +kernel
theorem dX7_whyNotCertified_13 : decode cX7_whyNotCertified 13 = .ok (.getfield 7, 3) := by decide +kernel
theorem dX7_whyNotCertified_16 : decode cX7_whyNotCertified 16 = .ok (.iconst 3, 1) := by decide +kernel
theorem dX7_whyNotCertified_17 : decode cX7_whyNotCertified 17 = .ok (.iaload, 1) := by decide +kernel
theorem dX7_whyNotCertified_18 : decode cX7_whyNotCertified 18 = .ok (.ifCond .ne 8, 3) := by decide +kernel
theorem dX7_whyNotCertified_21 : decode cX7_whyNotCertified 21 = .ok (.bipush (-5), 2) := by decide +kernel
theorem dX7_whyNotCertified_23 : decode cX7_whyNotCertified 23 = .ok (.goto 4, 3) := by decide +kernel
theorem dX7_whyNotCertified_26 : decode cX7_whyNotCertified 26 = .ok (.iconst 0, 1) := by decide +kernel
theorem dX7_whyNotCertified_27 : decode cX7_whyNotCertified 27 = .ok (.ireturn, 1) := by decide +kernel
theorem dX7_certifies_0 : decode cX7_certifies 0 = .ok (.aload_n 0, 1) := by decide +kernel
theorem dX7_certifies_1 : decode cX7_certifies 1 = .ok (.iload_n 1, 1) := by decide +kernel
theorem dX7_certifies_2 : decode cX7_certifies 2 = .ok (.aload_n 0, 1) := by decide +kernel
theorem dX7_certifies_3 : decode cX7_certifies 3 = .ok (.iload_n 1, 1) := by decide +kernel
theorem dX7_certifies_4 : decode cX7_certifies 4 = .ok (.iconst 0, 1) := by decide +kernel
theorem dX7_certifies_5 : decode cX7_certifies 5 = .ok (.invokevirtual 64, 3) := by decide +kernel
theorem dX7_certifies_8 : decode cX7_certifies 8 = .ok (.invokevirtual 146, 3) := by decide +kernel
theorem dX7_certifies_11 : decode cX7_certifies 11 = .ok (.aload_n 0, 1) := by decide +kernel
theorem dX7_certifies_12 : decode cX7_certifies 12 = .ok (.getfield 85, 3) := by decide +kernel
theorem dX7_certifies_15 : decode cX7_certifies 15 = .ok (.aload_n 0, 1) := by decide +kernel
theorem dX7_certifies_16 : decode cX7_certifies 16 = .ok (.getfield 7, 3) := by decide +kernel
theorem dX7_certifies_19 : decode cX7_certifies 19 = .ok (.iconst 2, 1) := by decide +kernel
theorem dX7_certifies_20 : decode cX7_certifies 20 = .ok (.iaload, 1) := by decide +kernel
theorem dX7_certifies_21 : decode cX7_certifies 21 = .ok (.if_icmp .gt 91, 3) := by decide +kernel
theorem dX7_certifies_24 : decode cX7_certifies 24 = .ok (.aload_n 0, 1) := by decide +kernel
theorem dX7_certifies_25 : decode cX7_certifies 25 = .ok (.iload_n 1, 1) := by decide +kernel
theorem dX7_certifies_26 : decode cX7_certifies 26 = .ok (.iconst 4, 1) := by decide +kernel
theorem dX7_certifies_27 : decode cX7_certifies 27 = .ok (.iconst 1, 1) := by decide +kernel
theorem dX7_certifies_28 : decode cX7_certifies 28 = .ok (.invokevirtual 74, 3) := by decide +kernel
theorem dX7_certifies_31 : decode cX7_certifies 31 = .ok (.aload_n 0, 1) := by decide +kernel
theorem dX7_certifies_32 : decode cX7_certifies 32 = .ok (.iload_n 1, 1) := by decide +kernel
theorem dX7_certifies_33 : decode cX7_certifies 33 = .ok (.iconst 5, 1) := by decide +kernel
theorem dX7_certifies_34 : decode cX7_certifies 34 = .ok (.aload_n 0, 1) := by decide +kernel
theorem dX7_certifies_35 : decode cX7_certifies 35 = .ok (.getfield 85, 3) := by decide +kernel
theorem dX7_certifies_38 : decode cX7_certifies 38 = .ok (.invokevirtual 74, 3) := by decide +kernel
theorem dX7_certifies_41 : decode cX7_certifies 41 = .ok (.aload_n 0, 1) := by decide +kernel
theorem dX7_certifies_42 : decode cX7_certifies 42 = .ok (.iload_n 1, 1) := by decide +kernel
theorem dX7_certifies_43 : decode cX7_certifies 43 = .ok (.bipush 6, 2) := by decide +kernel
theorem dX7_certifies_45 : decode cX7_certifies 45 = .ok (.aload_n 0, 1) := by decide +kernel
theorem dX7_certifies_46 : decode cX7_certifies 46 = .ok (.getfield 7, 3) := by decide +kernel
theorem dX7_certifies_49 : decode cX7_certifies 49 = .ok (.iconst 0, 1) := by decide +kernel
theorem dX7_certifies_50 : decode cX7_certifies 50 = .ok (.iaload, 1) := by decide +kernel
theorem dX7_certifies_51 : decode cX7_certifies 51 = .ok (.invokevirtual 74, 3) := by decide +kernel
theorem dX7_certifies_54 : decode cX7_certifies 54 = .ok (.aload_n 0, 1) := by decide +kernel
theorem dX7_certifies_55 : decode cX7_certifies 55 = .ok (.iload_n 1, 1) := by decide +kernel
theorem dX7_certifies_56 : decode cX7_certifies 56 = .ok (.bipush 7, 2) := by decide +kernel
theorem dX7_certifies_58 : decode cX7_certifies 58 = .ok (.aload_n 0, 1) := by decide +kernel
theorem dX7_certifies_59 : decode cX7_certifies 59 = .ok (.getfield 7, 3) := by decide +kernel
theorem dX7_certifies_62 : decode cX7_certifies 62 = .ok (.iconst 1, 1) := by decide +kernel
theorem dX7_certifies_63 : decode cX7_certifies 63 = .ok (.iaload, 1) := by decide +kernel
theorem dX7_certifies_64 : decode cX7_certifies 64 = .ok (.invokevirtual 74, 3) := by decide +kernel
theorem dX7_certifies_67 : decode cX7_certifies 67 = .ok (.iconst 0, 1) := by decide +kernel
theorem dX7_certifies_68 : decode cX7_certifies 68 = .ok (.istore_n 2, 1) := by decide +kernel
theorem dX7_certifies_69 : decode cX7_certifies 69 = .ok (.iload_n 2, 1) := by decide +kernel
theorem dX7_certifies_70 : decode cX7_certifies 70 = .ok (.bipush 28, 2) := by decide +kernel
theorem dX7_certifies_72 : decode cX7_certifies 72 = .ok (.if_icmp .ge 40, 3) := by decide +kernel
theorem dX7_certifies_75 : decode cX7_certifies 75 = .ok (.aload_n 0, 1) := by decide +kernel
theorem dX7_certifies_76 : decode cX7_certifies 76 = .ok (.iload_n 1, 1) := by decide +kernel
theorem dX7_certifies_77 : decode cX7_certifies 77 = .ok (.bipush 8, 2) := by decide +kernel
theorem dX7_certifies_79 : decode cX7_certifies 79 = .ok (.iload_n 2, 1) := by decide +kernel
theorem dX7_certifies_80 : decode cX7_certifies 80 = .ok (.iadd, 1) := by decide +kernel
theorem dX7_certifies_81 : decode cX7_certifies 81 = .ok (.iload_n 2, 1) := by decide +kernel
theorem dX7_certifies_82 : decode cX7_certifies 82 = .ok (.iconst 2, 1) := by decide +kernel
theorem dX7_certifies_83 : decode cX7_certifies 83 = .ok (.aload_n 0, 1) := by decide +kernel
theorem dX7_certifies_84 : decode cX7_certifies 84 = .ok (.getfield 7, 3) := by decide +kernel
theorem dX7_certifies_87 : decode cX7_certifies 87 = .ok (.iconst 3, 1) := by decide +kernel
theorem dX7_certifies_88 : decode cX7_certifies 88 = .ok (.iaload, 1) := by decide +kernel
theorem dX7_certifies_89 : decode cX7_certifies 89 = .ok (.imul, 1) := by decide +kernel
theorem dX7_certifies_90 : decode cX7_certifies 90 = .ok (.if_icmp .ge 12, 3) := by decide +kernel
theorem dX7_certifies_93 : decode cX7_certifies 93 = .ok (.aload_n 0, 1) := by decide +kernel
theorem dX7_certifies_94 : decode cX7_certifies 94 = .ok (.getfield 28, 3) := by decide +kernel
theorem dX7_certifies_97 : decode cX7_certifies 97 = .ok (.iload_n 2, 1) := by decide +kernel
theorem dX7_certifies_98 : decode cX7_certifies 98 = .ok (.iaload, 1) := by decide +kernel
theorem dX7_certifies_99 : decode cX7_certifies 99 = .ok (.goto 4, 3) := by decide +kernel
theorem dX7_certifies_102 : decode cX7_certifies 102 = .ok (.iconst 0, 1) := by decide +kernel
theorem dX7_certifies_103 : decode cX7_certifies 103 = .ok (.invokevirtual 74, 3) := by decide +kernel
theorem dX7_certifies_106 : decode cX7_certifies 106 = .ok (.iinc 2 1, 3) := by decide +kernel
theorem dX7_certifies_109 : decode cX7_certifies 109 = .ok (.goto (-40), 3) := by decide +kernel
theorem dX7_certifies_112 : decode cX7_certifies 112 = .ok (.aload_n 0, 1) := by decide +kernel
theorem dX7_certifies_113 : decode cX7_certifies 113 = .ok (.getfield 85, 3) := by decide +kernel
theorem dX7_certifies_116 : decode cX7_certifies 116 = .ok (.ireturn, 1) := by decide +kernel
theorem dX7_certify_0 : decode cX7_certify 0 = .ok (.aload_n 0, 1) := by decide +kernel
theorem dX7_certify_1 : decode cX7_certify 1 = .ok (.iload_n 1, 1) := by decide +kernel
theorem dX7_certify_2 : decode cX7_certify 2 = .ok (.invokevirtual 150, 3) := by decide +kernel
theorem dX7_certify_5 : decode cX7_certify 5 = .ok (.istore_n 2, 1) := by decide +kernel
theorem dX7_certify_6 : decode cX7_certify 6 = .ok (.iload_n 2, 1) := by decide +kernel
theorem dX7_certify_7 : decode cX7_certify 7 = .ok (.ifCond .ge 5, 3) := by decide +kernel
theorem dX7_certify_10 : decode cX7_certify 10 = .ok (.iload_n 2, 1) := by decide +kernel
theorem dX7_certify_11 : decode cX7_certify 11 = .ok (.ireturn, 1) := by decide +kernel
theorem dX7_certify_12 : decode cX7_certify 12 = .ok (.aload_n 0, 1) := by decide +kernel
theorem dX7_certify_13 : decode cX7_certify 13 = .ok (.invokevirtual 107, 3) := by decide +kernel
theorem dX7_certify_16 : decode cX7_certify 16 = .ok (.aload_n 0, 1) := by decide +kernel
theorem dX7_certify_17 : decode cX7_certify 17 = .ok (.iload_n 1, 1) := by decide +kernel
theorem dX7_certify_18 : decode cX7_certify 18 = .ok (.invokevirtual 153, 3) := by decide +kernel
theorem dX7_certify_21 : decode cX7_certify 21 = .ok (.ireturn, 1) := by decide +kernel
theorem dX7_placeOf_0 : decode cX7_placeOf 0 = .ok (.aload_n 0, 1) := by decide +kernel
theorem dX7_placeOf_1 : decode cX7_placeOf 1 = .ok (.invokevirtual 91, 3) := by decide +kernel
theorem dX7_placeOf_4 : decode cX7_placeOf 4 = .ok (.bipush (-6), 2) := by decide +kernel
theorem dX7_placeOf_6 : decode cX7_placeOf 6 = .ok (.istore_n 2, 1) := by decide +kernel
theorem dX7_placeOf_7 : decode cX7_placeOf 7 = .ok (.iconst 0, 1) := by decide +kernel
theorem dX7_placeOf_8 : decode cX7_placeOf 8 = .ok (.istore_n 3, 1) := by decide +kernel
theorem dX7_placeOf_9 : decode cX7_placeOf 9 = .ok (.iload_n 3, 1) := by decide +kernel
theorem dX7_placeOf_10 : decode cX7_placeOf 10 = .ok (.aload_n 0, 1) := by decide +kernel
theorem dX7_placeOf_11 : decode cX7_placeOf 11 = .ok (.getfield 7, 3) := by decide +kernel
theorem dX7_placeOf_14 : decode cX7_placeOf 14 = .ok (.iconst 3, 1) := by decide +kernel
theorem dX7_placeOf_15 : decode cX7_placeOf 15 = .ok (.iaload, 1) := by decide +kernel
theorem dX7_placeOf_16 : decode cX7_placeOf 16 = .ok (.if_icmp .ge 25, 3) := by decide +kernel
theorem dX7_placeOf_19 : decode cX7_placeOf 19 = .ok (.aload_n 0, 1) := by decide +kernel
theorem dX7_placeOf_20 : decode cX7_placeOf 20 = .ok (.getfield 25, 3) := by decide +kernel
theorem dX7_placeOf_23 : decode cX7_placeOf 23 = .ok (.iload_n 3, 1) := by decide +kernel
theorem dX7_placeOf_24 : decode cX7_placeOf 24 = .ok (.iaload, 1) := by decide +kernel
theorem dX7_placeOf_25 : decode cX7_placeOf 25 = .ok (.iload_n 1, 1) := by decide +kernel
theorem dX7_placeOf_26 : decode cX7_placeOf 26 = .ok (.if_icmp .ne 7, 3) := by decide +kernel
theorem dX7_placeOf_29 : decode cX7_placeOf 29 = .ok (.iload_n 3, 1) := by decide +kernel
theorem dX7_placeOf_30 : decode cX7_placeOf 30 = .ok (.goto 4, 3) := by decide +kernel
theorem dX7_placeOf_33 : decode cX7_placeOf 33 = .ok (.iload_n 2, 1) := by decide +kernel
theorem dX7_placeOf_34 : decode cX7_placeOf 34 = .ok (.istore_n 2, 1) := by decide +kernel
theorem dX7_placeOf_35 : decode cX7_placeOf 35 = .ok (.iinc 3 1, 3) := by decide +kernel
theorem dX7_placeOf_38 : decode cX7_placeOf 38 = .ok (.goto (-29), 3) := by decide +kernel
theorem dX7_placeOf_41 : decode cX7_placeOf 41 = .ok (.iload_n 2, 1) := by decide +kernel
theorem dX7_placeOf_42 : decode cX7_placeOf 42 = .ok (.ireturn, 1) := by decide +kernel
theorem dX7_ofRing_0 : decode cX7_ofRing 0 = .ok (.aload_n 0, 1) := by decide +kernel
theorem dX7_ofRing_1 : decode cX7_ofRing 1 = .ok (.iload_n 1, 1) := by decide +kernel
theorem dX7_ofRing_2 : decode cX7_ofRing 2 = .ok (.invokevirtual 119, 3) := by decide +kernel
theorem dX7_ofRing_5 : decode cX7_ofRing 5 = .ok (.ifCond .ne 5, 3) := by decide +kernel
theorem dX7_ofRing_8 : decode cX7_ofRing 8 = .ok (.iconst (-1), 1) := by decide +kernel
theorem dX7_ofRing_9 : decode cX7_ofRing 9 = .ok (.ireturn, 1) := by decide +kernel
theorem dX7_ofRing_10 : decode cX7_ofRing 10 = .ok (.iload_n 2, 1) := by decide +kernel
theorem dX7_ofRing_11 : decode cX7_ofRing 11 = .ok (.tableswitch 55 0 2 #[25, 35, 49], 25) := by decide +kernel
theorem dX7_ofRing_36 : decode cX7_ofRing 36 = .ok (.aload_n 0, 1) := by decide +kernel
theorem dX7_ofRing_37 : decode cX7_ofRing 37 = .ok (.getfield 7, 3) := by decide +kernel
theorem dX7_ofRing_40 : decode cX7_ofRing 40 = .ok (.bipush 6, 2) := by decide +kernel
theorem dX7_ofRing_42 : decode cX7_ofRing 42 = .ok (.iload_n 1, 1) := by decide +kernel
theorem dX7_ofRing_43 : decode cX7_ofRing 43 = .ok (.iadd, 1) := by decide +kernel
theorem dX7_ofRing_44 : decode cX7_ofRing 44 = .ok (.iaload, 1) := by decide +kernel
theorem dX7_ofRing_45 : decode cX7_ofRing 45 = .ok (.ireturn, 1) := by decide +kernel
theorem dX7_ofRing_46 : decode cX7_ofRing 46 = .ok (.aload_n 0, 1) := by decide +kernel
theorem dX7_ofRing_47 : decode cX7_ofRing 47 = .ok (.iload_n 1, 1) := by decide +kernel
theorem dX7_ofRing_48 : decode cX7_ofRing 48 = .ok (.invokevirtual 123, 3) := by decide +kernel
theorem dX7_ofRing_51 : decode cX7_ofRing 51 = .ok (.ifCond .eq 7, 3) := by decide +kernel
theorem dX7_ofRing_54 : decode cX7_ofRing 54 = .ok (.iconst 1, 1) := by decide +kernel
theorem dX7_ofRing_55 : decode cX7_ofRing 55 = .ok (.goto 4, 3) := by decide +kernel
theorem dX7_ofRing_58 : decode cX7_ofRing 58 = .ok (.iconst 0, 1) := by decide +kernel
theorem dX7_ofRing_59 : decode cX7_ofRing 59 = .ok (.ireturn, 1) := by decide +kernel
theorem dX7_ofRing_60 : decode cX7_ofRing 60 = .ok (.aload_n 0, 1) := by decide +kernel
theorem dX7_ofRing_61 : decode cX7_ofRing 61 = .ok (.iload_n 1, 1) := by decide +kernel
theorem dX7_ofRing_62 : decode cX7_ofRing 62 = .ok (.invokevirtual 156, 3) := by decide +kernel
theorem dX7_ofRing_65 : decode cX7_ofRing 65 = .ok (.ireturn, 1) := by decide +kernel
theorem dX7_ofRing_66 : decode cX7_ofRing 66 = .ok (.bipush (-2), 2) := by decide +kernel
theorem dX7_ofRing_68 : decode cX7_ofRing 68 = .ok (.ireturn, 1) := by decide +kernel
theorem dX7_ofGauge_0 : decode cX7_ofGauge 0 = .ok (.aload_n 0, 1) := by decide +kernel
theorem dX7_ofGauge_1 : decode cX7_ofGauge 1 = .ok (.iload_n 1, 1) := by decide +kernel
theorem dX7_ofGauge_2 : decode cX7_ofGauge 2 = .ok (.invokevirtual 143, 3) := by decide +kernel
theorem dX7_ofGauge_5 : decode cX7_ofGauge 5 = .ok (.ifCond .ne 5, 3) := by decide +kernel
theorem dX7_ofGauge_8 : decode cX7_ofGauge 8 = .ok (.iconst (-1), 1) := by decide +kernel
theorem dX7_ofGauge_9 : decode cX7_ofGauge 9 = .ok (.ireturn, 1) := by decide +kernel
theorem dX7_ofGauge_10 : decode cX7_ofGauge 10 = .ok (.aload_n 0, 1) := by decide +kernel
theorem dX7_ofGauge_11 : decode cX7_ofGauge 11 = .ok (.iload_n 1, 1) := by decide +kernel
theorem dX7_ofGauge_12 : decode cX7_ofGauge 12 = .ok (.iconst 4, 1) := by decide +kernel
theorem dX7_ofGauge_13 : decode cX7_ofGauge 13 = .ok (.invokevirtual 64, 3) := by decide +kernel
theorem dX7_ofGauge_16 : decode cX7_ofGauge 16 = .ok (.iconst 1, 1) := by decide +kernel
theorem dX7_ofGauge_17 : decode cX7_ofGauge 17 = .ok (.if_icmp .ne 7, 3) := by decide +kernel
theorem dX7_ofGauge_20 : decode cX7_ofGauge 20 = .ok (.iconst 1, 1) := by decide +kernel
theorem dX7_ofGauge_21 : decode cX7_ofGauge 21 = .ok (.goto 4, 3) := by decide +kernel
theorem dX7_ofGauge_24 : decode cX7_ofGauge 24 = .ok (.iconst 0, 1) := by decide +kernel
theorem dX7_ofGauge_25 : decode cX7_ofGauge 25 = .ok (.istore_n 3, 1) := by decide +kernel
theorem dX7_ofGauge_26 : decode cX7_ofGauge 26 = .ok (.iload_n 2, 1) := by decide +kernel
theorem dX7_ofGauge_27 : decode cX7_ofGauge 27 = .ok (.tableswitch 135 0 7 #[45, 55, 62, 69, 76, 92, 102, 118], 45) := by decide +kernel
theorem dX7_ofGauge_72 : decode cX7_ofGauge 72 = .ok (.aload_n 0, 1) := by decide +kernel
theorem dX7_ofGauge_73 : decode cX7_ofGauge 73 = .ok (.iload_n 1, 1) := by decide +kernel
theorem dX7_ofGauge_74 : decode cX7_ofGauge 74 = .ok (.iconst 0, 1) := by decide +kernel
theorem dX7_ofGauge_75 : decode cX7_ofGauge 75 = .ok (.invokevirtual 64, 3) := by decide +kernel
theorem dX7_ofGauge_78 : decode cX7_ofGauge 78 = .ok (.bipush 100, 2) := by decide +kernel
theorem dX7_ofGauge_80 : decode cX7_ofGauge 80 = .ok (.iadd, 1) := by decide +kernel
theorem dX7_ofGauge_81 : decode cX7_ofGauge 81 = .ok (.ireturn, 1) := by decide +kernel
theorem dX7_ofGauge_82 : decode cX7_ofGauge 82 = .ok (.aload_n 0, 1) := by decide +kernel
theorem dX7_ofGauge_83 : decode cX7_ofGauge 83 = .ok (.iload_n 1, 1) := by decide +kernel
theorem dX7_ofGauge_84 : decode cX7_ofGauge 84 = .ok (.iconst 1, 1) := by decide +kernel
theorem dX7_ofGauge_85 : decode cX7_ofGauge 85 = .ok (.invokevirtual 64, 3) := by decide +kernel
theorem dX7_ofGauge_88 : decode cX7_ofGauge 88 = .ok (.ireturn, 1) := by decide +kernel
theorem dX7_ofGauge_89 : decode cX7_ofGauge 89 = .ok (.aload_n 0, 1) := by decide +kernel
theorem dX7_ofGauge_90 : decode cX7_ofGauge 90 = .ok (.iload_n 1, 1) := by decide +kernel
theorem dX7_ofGauge_91 : decode cX7_ofGauge 91 = .ok (.iconst 2, 1) := by decide +kernel
theorem dX7_ofGauge_92 : decode cX7_ofGauge 92 = .ok (.invokevirtual 64, 3) := by decide +kernel
theorem dX7_ofGauge_95 : decode cX7_ofGauge 95 = .ok (.ireturn, 1) := by decide +kernel
theorem dX7_ofGauge_96 : decode cX7_ofGauge 96 = .ok (.aload_n 0, 1) := by decide +kernel
theorem dX7_ofGauge_97 : decode cX7_ofGauge 97 = .ok (.iload_n 1, 1) := by decide +kernel
theorem dX7_ofGauge_98 : decode cX7_ofGauge 98 = .ok (.iconst 3, 1) := by decide +kernel
theorem dX7_ofGauge_99 : decode cX7_ofGauge 99 = .ok (.invokevirtual 64, 3) := by decide +kernel
theorem dX7_ofGauge_102 : decode cX7_ofGauge 102 = .ok (.ireturn, 1) := by decide +kernel
theorem dX7_ofGauge_103 : decode cX7_ofGauge 103 = .ok (.aload_n 0, 1) := by decide +kernel
theorem dX7_ofGauge_104 : decode cX7_ofGauge 104 = .ok (.iload_n 1, 1) := by decide +kernel
theorem dX7_ofGauge_105 : decode cX7_ofGauge 105 = .ok (.iconst 3, 1) := by decide +kernel
theorem dX7_ofGauge_106 : decode cX7_ofGauge 106 = .ok (.invokevirtual 64, 3) := by decide +kernel
theorem dX7_ofGauge_109 : decode cX7_ofGauge 109 = .ok (.aload_n 0, 1) := by decide +kernel
theorem dX7_ofGauge_110 : decode cX7_ofGauge 110 = .ok (.iload_n 1, 1) := by decide +kernel
theorem dX7_ofGauge_111 : decode cX7_ofGauge 111 = .ok (.iconst 2, 1) := by decide +kernel
theorem dX7_ofGauge_112 : decode cX7_ofGauge 112 = .ok (.invokevirtual 64, 3) := by decide +kernel
theorem dX7_ofGauge_115 : decode cX7_ofGauge 115 = .ok (.invokestatic 94, 3) := by decide +kernel
theorem dX7_ofGauge_118 : decode cX7_ofGauge 118 = .ok (.ireturn, 1) := by decide +kernel
theorem dX7_ofGauge_119 : decode cX7_ofGauge 119 = .ok (.iload_n 3, 1) := by decide +kernel
theorem dX7_ofGauge_120 : decode cX7_ofGauge 120 = .ok (.ifCond .eq 7, 3) := by decide +kernel
theorem dX7_ofGauge_123 : decode cX7_ofGauge 123 = .ok (.iconst 1, 1) := by decide +kernel
theorem dX7_ofGauge_124 : decode cX7_ofGauge 124 = .ok (.goto 4, 3) := by decide +kernel
theorem dX7_ofGauge_127 : decode cX7_ofGauge 127 = .ok (.iconst 0, 1) := by decide +kernel
theorem dX7_ofGauge_128 : decode cX7_ofGauge 128 = .ok (.ireturn, 1) := by decide +kernel
theorem dX7_ofGauge_129 : decode cX7_ofGauge 129 = .ok (.iload_n 3, 1) := by decide +kernel
theorem dX7_ofGauge_130 : decode cX7_ofGauge 130 = .ok (.ifCond .eq 12, 3) := by decide +kernel
theorem dX7_ofGauge_133 : decode cX7_ofGauge 133 = .ok (.aload_n 0, 1) := by decide +kernel
theorem dX7_ofGauge_134 : decode cX7_ofGauge 134 = .ok (.iload_n 1, 1) := by decide +kernel
theorem dX7_ofGauge_135 : decode cX7_ofGauge 135 = .ok (.iconst 5, 1) := by decide +kernel
theorem dX7_ofGauge_136 : decode cX7_ofGauge 136 = .ok (.invokevirtual 64, 3) := by decide +kernel
theorem dX7_ofGauge_139 : decode cX7_ofGauge 139 = .ok (.goto 5, 3) := by decide +kernel
theorem dX7_ofGauge_142 : decode cX7_ofGauge 142 = .ok (.bipush (-6), 2) := by decide +kernel
theorem dX7_ofGauge_144 : decode cX7_ofGauge 144 = .ok (.ireturn, 1) := by decide +kernel
theorem dX7_ofGauge_145 : decode cX7_ofGauge 145 = .ok (.iload_n 3, 1) := by decide +kernel
theorem dX7_ofGauge_146 : decode cX7_ofGauge 146 = .ok (.ifCond .eq 13, 3) := by decide +kernel
theorem dX7_ofGauge_149 : decode cX7_ofGauge 149 = .ok (.aload_n 0, 1) := by decide +kernel
theorem dX7_ofGauge_150 : decode cX7_ofGauge 150 = .ok (.iload_n 1, 1) := by decide +kernel
theorem dX7_ofGauge_151 : decode cX7_ofGauge 151 = .ok (.bipush 6, 2) := by decide +kernel
theorem dX7_ofGauge_153 : decode cX7_ofGauge 153 = .ok (.invokevirtual 64, 3) := by decide +kernel
theorem dX7_ofGauge_156 : decode cX7_ofGauge 156 = .ok (.goto 5, 3) := by decide +kernel
theorem dX7_ofGauge_159 : decode cX7_ofGauge 159 = .ok (.bipush (-6), 2) := by decide +kernel
theorem dX7_ofGauge_161 : decode cX7_ofGauge 161 = .ok (.ireturn, 1) := by decide +kernel
theorem dX7_ofGauge_162 : decode cX7_ofGauge 162 = .ok (.bipush (-2), 2) := by decide +kernel
theorem dX7_ofGauge_164 : decode cX7_ofGauge 164 = .ok (.ireturn, 1) := by decide +kernel
theorem dX7_reading_0 : decode cX7_reading 0 = .ok (.aload_n 0, 1) := by decide +kernel
theorem dX7_reading_1 : decode cX7_reading 1 = .ok (.iload_n 1, 1) := by decide +kernel
theorem dX7_reading_2 : decode cX7_reading 2 = .ok (.invokevirtual 143, 3) := by decide +kernel
theorem dX7_reading_5 : decode cX7_reading 5 = .ok (.ifCond .eq 30, 3) := by decide +kernel
theorem dX7_reading_8 : decode cX7_reading 8 = .ok (.aload_n 0, 1) := by decide +kernel
theorem dX7_reading_9 : decode cX7_reading 9 = .ok (.iload_n 1, 1) := by decide +kernel
theorem dX7_reading_10 : decode cX7_reading 10 = .ok (.iconst 4, 1) := by decide +kernel
theorem dX7_reading_11 : decode cX7_reading 11 = .ok (.invokevirtual 64, 3) := by decide +kernel
theorem dX7_reading_14 : decode cX7_reading 14 = .ok (.ifCond .eq 21, 3) := by decide +kernel
theorem dX7_reading_17 : decode cX7_reading 17 = .ok (.iload_n 2, 1) := by decide +kernel
theorem dX7_reading_18 : decode cX7_reading 18 = .ok (.iconst 0, 1) := by decide +kernel
theorem dX7_reading_19 : decode cX7_reading 19 = .ok (.iconst 2, 1) := by decide +kernel
theorem dX7_reading_20 : decode cX7_reading 20 = .ok (.aload_n 0, 1) := by decide +kernel
theorem dX7_reading_21 : decode cX7_reading 21 = .ok (.getfield 7, 3) := by decide +kernel
theorem dX7_reading_24 : decode cX7_reading 24 = .ok (.iconst 3, 1) := by decide +kernel
theorem dX7_reading_25 : decode cX7_reading 25 = .ok (.iaload, 1) := by decide +kernel
theorem dX7_reading_26 : decode cX7_reading 26 = .ok (.imul, 1) := by decide +kernel
theorem dX7_reading_27 : decode cX7_reading 27 = .ok (.iconst 1, 1) := by decide +kernel
theorem dX7_reading_28 : decode cX7_reading 28 = .ok (.isub, 1) := by decide +kernel
theorem dX7_reading_29 : decode cX7_reading 29 = .ok (.invokestatic 39, 3) := by decide +kernel
theorem dX7_reading_32 : decode cX7_reading 32 = .ok (.ifCond .ne 5, 3) := by decide +kernel
theorem dX7_reading_35 : decode cX7_reading 35 = .ok (.iconst (-1), 1) := by decide +kernel
theorem dX7_reading_36 : decode cX7_reading 36 = .ok (.ireturn, 1) := by decide +kernel
theorem dX7_reading_37 : decode cX7_reading 37 = .ok (.aload_n 0, 1) := by decide +kernel
theorem dX7_reading_38 : decode cX7_reading 38 = .ok (.iload_n 1, 1) := by decide +kernel
theorem dX7_reading_39 : decode cX7_reading 39 = .ok (.bipush 8, 2) := by decide +kernel
theorem dX7_reading_41 : decode cX7_reading 41 = .ok (.iload_n 2, 1) := by decide +kernel
theorem dX7_reading_42 : decode cX7_reading 42 = .ok (.iadd, 1) := by decide +kernel
theorem dX7_reading_43 : decode cX7_reading 43 = .ok (.invokevirtual 64, 3) := by decide +kernel
theorem dX7_reading_46 : decode cX7_reading 46 = .ok (.ireturn, 1) := by decide +kernel
theorem dX7_count_0 : decode cX7_count 0 = .ok (.iload_n 1, 1) := by decide +kernel
theorem dX7_count_1 : decode cX7_count 1 = .ok (.tableswitch 152 0 11 #[63, 70, 77, 84, 95, 116, 127, 132, 132, 132, 142, 147], 63) := by decide +kernel
theorem dX7_count_64 : decode cX7_count 64 = .ok (.aload_n 0, 1) := by decide +kernel
theorem dX7_count_65 : decode cX7_count 65 = .ok (.getfield 7, 3) := by decide +kernel
theorem dX7_count_68 : decode cX7_count 68 = .ok (.iconst 3, 1) := by decide +kernel
theorem dX7_count_69 : decode cX7_count 69 = .ok (.iaload, 1) := by decide +kernel
theorem dX7_count_70 : decode cX7_count 70 = .ok (.ireturn, 1) := by decide +kernel
theorem dX7_count_71 : decode cX7_count 71 = .ok (.aload_n 0, 1) := by decide +kernel
theorem dX7_count_72 : decode cX7_count 72 = .ok (.getfield 7, 3) := by decide +kernel
theorem dX7_count_75 : decode cX7_count 75 = .ok (.iconst 5, 1) := by decide +kernel
theorem dX7_count_76 : decode cX7_count 76 = .ok (.iaload, 1) := by decide +kernel
theorem dX7_count_77 : decode cX7_count 77 = .ok (.ireturn, 1) := by decide +kernel
theorem dX7_count_78 : decode cX7_count 78 = .ok (.aload_n 0, 1) := by decide +kernel
theorem dX7_count_79 : decode cX7_count 79 = .ok (.getfield 7, 3) := by decide +kernel
theorem dX7_count_82 : decode cX7_count 82 = .ok (.iconst 4, 1) := by decide +kernel
theorem dX7_count_83 : decode cX7_count 83 = .ok (.iaload, 1) := by decide +kernel
theorem dX7_count_84 : decode cX7_count 84 = .ok (.ireturn, 1) := by decide +kernel
theorem dX7_count_85 : decode cX7_count 85 = .ok (.aload_n 0, 1) := by decide +kernel
theorem dX7_count_86 : decode cX7_count 86 = .ok (.aload_n 0, 1) := by decide +kernel
theorem dX7_count_87 : decode cX7_count 87 = .ok (.getfield 7, 3) := by decide +kernel
theorem dX7_count_90 : decode cX7_count 90 = .ok (.iconst 4, 1) := by decide +kernel
theorem dX7_count_91 : decode cX7_count 91 = .ok (.iaload, 1) := by decide +kernel
theorem dX7_count_92 : decode cX7_count 92 = .ok (.invokevirtual 51, 3) := by decide +kernel
theorem dX7_count_95 : decode cX7_count 95 = .ok (.ireturn, 1) := by decide +kernel
theorem dX7_count_96 : decode cX7_count 96 = .ok (.aload_n 0, 1) := by decide +kernel
theorem dX7_count_97 : decode cX7_count 97 = .ok (.aload_n 0, 1) := by decide +kernel
theorem dX7_count_98 : decode cX7_count 98 = .ok (.aload_n 0, 1) := by decide +kernel
theorem dX7_count_99 : decode cX7_count 99 = .ok (.getfield 7, 3) := by decide +kernel
theorem dX7_count_102 : decode cX7_count 102 = .ok (.iconst 4, 1) := by decide +kernel
theorem dX7_count_103 : decode cX7_count 103 = .ok (.iaload, 1) := by decide +kernel
theorem dX7_count_104 : decode cX7_count 104 = .ok (.invokevirtual 51, 3) := by decide +kernel
theorem dX7_count_107 : decode cX7_count 107 = .ok (.aload_n 0, 1) := by decide +kernel
theorem dX7_count_108 : decode cX7_count 108 = .ok (.getfield 7, 3) := by decide +kernel
theorem dX7_count_111 : decode cX7_count 111 = .ok (.iconst 0, 1) := by decide +kernel
theorem dX7_count_112 : decode cX7_count 112 = .ok (.iaload, 1) := by decide +kernel
theorem dX7_count_113 : decode cX7_count 113 = .ok (.invokevirtual 48, 3) := by decide +kernel
theorem dX7_count_116 : decode cX7_count 116 = .ok (.ireturn, 1) := by decide +kernel
theorem dX7_count_117 : decode cX7_count 117 = .ok (.aload_n 0, 1) := by decide +kernel
theorem dX7_count_118 : decode cX7_count 118 = .ok (.aload_n 0, 1) := by decide +kernel
theorem dX7_count_119 : decode cX7_count 119 = .ok (.getfield 7, 3) := by decide +kernel
theorem dX7_count_122 : decode cX7_count 122 = .ok (.iconst 4, 1) := by decide +kernel
theorem dX7_count_123 : decode cX7_count 123 = .ok (.iaload, 1) := by decide +kernel
theorem dX7_count_124 : decode cX7_count 124 = .ok (.invokevirtual 67, 3) := by decide +kernel
theorem dX7_count_127 : decode cX7_count 127 = .ok (.ireturn, 1) := by decide +kernel
theorem dX7_count_128 : decode cX7_count 128 = .ok (.aload_n 0, 1) := by decide +kernel
theorem dX7_count_129 : decode cX7_count 129 = .ok (.invokevirtual 159, 3) := by decide +kernel
theorem dX7_count_132 : decode cX7_count 132 = .ok (.ireturn, 1) := by decide +kernel
theorem dX7_count_133 : decode cX7_count 133 = .ok (.aload_n 0, 1) := by decide +kernel
theorem dX7_count_134 : decode cX7_count 134 = .ok (.getfield 7, 3) := by decide +kernel
theorem dX7_count_137 : decode cX7_count 137 = .ok (.iload_n 1, 1) := by decide +kernel
theorem dX7_count_138 : decode cX7_count 138 = .ok (.bipush 7, 2) := by decide +kernel
theorem dX7_count_140 : decode cX7_count 140 = .ok (.isub, 1) := by decide +kernel
theorem dX7_count_141 : decode cX7_count 141 = .ok (.iaload, 1) := by decide +kernel
theorem dX7_count_142 : decode cX7_count 142 = .ok (.ireturn, 1) := by decide +kernel
theorem dX7_count_143 : decode cX7_count 143 = .ok (.aload_n 0, 1) := by decide +kernel
theorem dX7_count_144 : decode cX7_count 144 = .ok (.getfield 163, 3) := by decide +kernel
theorem dX7_count_147 : decode cX7_count 147 = .ok (.ireturn, 1) := by decide +kernel
theorem dX7_count_148 : decode cX7_count 148 = .ok (.aload_n 0, 1) := by decide +kernel
theorem dX7_count_149 : decode cX7_count 149 = .ok (.getfield 31, 3) := by decide +kernel
theorem dX7_count_152 : decode cX7_count 152 = .ok (.ireturn, 1) := by decide +kernel
theorem dX7_count_153 : decode cX7_count 153 = .ok (.bipush (-2), 2) := by decide +kernel
theorem dX7_count_155 : decode cX7_count 155 = .ok (.ireturn, 1) := by decide +kernel
theorem dX7_pressure_0 : decode cX7_pressure 0 = .ok (.iload_n 1, 1) := by decide +kernel
theorem dX7_pressure_1 : decode cX7_pressure 1 = .ok (.ifCond .ge 8, 3) := by decide +kernel
theorem dX7_pressure_4 : decode cX7_pressure 4 = .ok (.bipush (-2), 2) := by decide +kernel
theorem dX7_pressure_6 : decode cX7_pressure 6 = .ok (.goto 8, 3) := by decide +kernel
theorem dX7_pressure_9 : decode cX7_pressure 9 = .ok (.aload_n 0, 1) := by decide +kernel
theorem dX7_pressure_10 : decode cX7_pressure 10 = .ok (.iload_n 1, 1) := by decide +kernel
theorem dX7_pressure_11 : decode cX7_pressure 11 = .ok (.invokevirtual 67, 3) := by decide +kernel
theorem dX7_pressure_14 : decode cX7_pressure 14 = .ok (.ireturn, 1) := by decide +kernel
theorem dX7_nearest_0 : decode cX7_nearest 0 = .ok (.iload_n 1, 1) := by decide +kernel
theorem dX7_nearest_1 : decode cX7_nearest 1 = .ok (.ifCond .lt 12, 3) := by decide +kernel
theorem dX7_nearest_4 : decode cX7_nearest 4 = .ok (.iload_n 2, 1) := by decide +kernel
theorem dX7_nearest_5 : decode cX7_nearest 5 = .ok (.iconst 0, 1) := by decide +kernel
theorem dX7_nearest_6 : decode cX7_nearest 6 = .ok (.iconst 1, 1) := by decide +kernel
theorem dX7_nearest_7 : decode cX7_nearest 7 = .ok (.invokestatic 39, 3) := by decide +kernel
theorem dX7_nearest_10 : decode cX7_nearest 10 = .ok (.ifCond .ne 6, 3) := by decide +kernel
theorem dX7_nearest_13 : decode cX7_nearest 13 = .ok (.bipush (-2), 2) := by decide +kernel
theorem dX7_nearest_15 : decode cX7_nearest 15 = .ok (.ireturn, 1) := by decide +kernel
theorem dX7_nearest_16 : decode cX7_nearest 16 = .ok (.iconst 0, 1) := by decide +kernel
theorem dX7_nearest_17 : decode cX7_nearest 17 = .ok (.istore_n 3, 1) := by decide +kernel
theorem dX7_nearest_18 : decode cX7_nearest 18 = .ok (.aload_n 0, 1) := by decide +kernel
theorem dX7_nearest_19 : decode cX7_nearest 19 = .ok (.iconst 0, 1) := by decide +kernel
theorem dX7_nearest_20 : decode cX7_nearest 20 = .ok (.invokevirtual 67, 3) := by decide +kernel
theorem dX7_nearest_23 : decode cX7_nearest 23 = .ok (.iload_n 1, 1) := by decide +kernel
theorem dX7_nearest_24 : decode cX7_nearest 24 = .ok (.isub, 1) := by decide +kernel
theorem dX7_nearest_25 : decode cX7_nearest 25 = .ok (.invokestatic 58, 3) := by decide +kernel
theorem dX7_nearest_28 : decode cX7_nearest 28 = .ok (.istore 4, 2) := by decide +kernel
theorem dX7_nearest_30 : decode cX7_nearest 30 = .ok (.iconst 1, 1) := by decide +kernel
theorem dX7_nearest_31 : decode cX7_nearest 31 = .ok (.istore 5, 2) := by decide +kernel
theorem dX7_nearest_33 : decode cX7_nearest 33 = .ok (.iload 5, 2) := by decide +kernel
theorem dX7_nearest_35 : decode cX7_nearest 35 = .ok (.iconst 1, 1) := by decide +kernel
theorem dX7_nearest_36 : decode cX7_nearest 36 = .ok (.aload_n 0, 1) := by decide +kernel
theorem dX7_nearest_37 : decode cX7_nearest 37 = .ok (.getfield 7, 3) := by decide +kernel
theorem dX7_nearest_40 : decode cX7_nearest 40 = .ok (.iconst 3, 1) := by decide +kernel
theorem dX7_nearest_41 : decode cX7_nearest 41 = .ok (.iaload, 1) := by decide +kernel
theorem dX7_nearest_42 : decode cX7_nearest 42 = .ok (.ishl, 1) := by decide +kernel
theorem dX7_nearest_43 : decode cX7_nearest 43 = .ok (.if_icmp .ge 55, 3) := by decide +kernel
theorem dX7_nearest_46 : decode cX7_nearest 46 = .ok (.aload_n 0, 1) := by decide +kernel
theorem dX7_nearest_47 : decode cX7_nearest 47 = .ok (.iload 5, 2) := by decide +kernel
theorem dX7_nearest_49 : decode cX7_nearest 49 = .ok (.invokevirtual 67, 3) := by decide +kernel
theorem dX7_nearest_52 : decode cX7_nearest 52 = .ok (.iload_n 1, 1) := by decide +kernel
theorem dX7_nearest_53 : decode cX7_nearest 53 = .ok (.isub, 1) := by decide +kernel
theorem dX7_nearest_54 : decode cX7_nearest 54 = .ok (.invokestatic 58, 3) := by decide +kernel
theorem dX7_nearest_57 : decode cX7_nearest 57 = .ok (.istore 6, 2) := by decide +kernel
theorem dX7_nearest_59 : decode cX7_nearest 59 = .ok (.iload 6, 2) := by decide +kernel
theorem dX7_nearest_61 : decode cX7_nearest 61 = .ok (.iload 4, 2) := by decide +kernel
theorem dX7_nearest_63 : decode cX7_nearest 63 = .ok (.if_icmp .lt 22, 3) := by decide +kernel
theorem dX7_nearest_66 : decode cX7_nearest 66 = .ok (.iload 6, 2) := by decide +kernel
theorem dX7_nearest_68 : decode cX7_nearest 68 = .ok (.iload 4, 2) := by decide +kernel
theorem dX7_nearest_70 : decode cX7_nearest 70 = .ok (.if_icmp .ne 22, 3) := by decide +kernel
theorem dX7_nearest_73 : decode cX7_nearest 73 = .ok (.iload 5, 2) := by decide +kernel
theorem dX7_nearest_75 : decode cX7_nearest 75 = .ok (.invokestatic 166, 3) := by decide +kernel
theorem dX7_nearest_78 : decode cX7_nearest 78 = .ok (.iload_n 3, 1) := by decide +kernel
theorem dX7_nearest_79 : decode cX7_nearest 79 = .ok (.invokestatic 166, 3) := by decide +kernel
theorem dX7_nearest_82 : decode cX7_nearest 82 = .ok (.if_icmp .ge 10, 3) := by decide +kernel
theorem dX7_nearest_85 : decode cX7_nearest 85 = .ok (.iload 5, 2) := by decide +kernel
theorem dX7_nearest_87 : decode cX7_nearest 87 = .ok (.istore_n 3, 1) := by decide +kernel
theorem dX7_nearest_88 : decode cX7_nearest 88 = .ok (.iload 6, 2) := by decide +kernel
theorem dX7_nearest_90 : decode cX7_nearest 90 = .ok (.istore 4, 2) := by decide +kernel
theorem dX7_nearest_92 : decode cX7_nearest 92 = .ok (.iinc 5 1, 3) := by decide +kernel
theorem dX7_nearest_95 : decode cX7_nearest 95 = .ok (.goto (-62), 3) := by decide +kernel
theorem dX7_nearest_98 : decode cX7_nearest 98 = .ok (.iload_n 2, 1) := by decide +kernel
theorem dX7_nearest_99 : decode cX7_nearest 99 = .ok (.ifCond .ne 7, 3) := by decide +kernel
theorem dX7_nearest_102 : decode cX7_nearest 102 = .ok (.iload_n 3, 1) := by decide +kernel
theorem dX7_nearest_103 : decode cX7_nearest 103 = .ok (.goto 8, 3) := by decide +kernel
theorem dX7_nearest_106 : decode cX7_nearest 106 = .ok (.aload_n 0, 1) := by decide +kernel
theorem dX7_nearest_107 : decode cX7_nearest 107 = .ok (.iload_n 3, 1) := by decide +kernel
theorem dX7_nearest_108 : decode cX7_nearest 108 = .ok (.invokevirtual 67, 3) := by decide +kernel
theorem dX7_nearest_111 : decode cX7_nearest 111 = .ok (.ireturn, 1) := by decide +kernel
theorem dX7_test_0 : decode cX7_test 0 = .ok (.aload_n 0, 1) := by decide +kernel
theorem dX7_test_1 : decode cX7_test 1 = .ok (.iload_n 1, 1) := by decide +kernel
theorem dX7_test_2 : decode cX7_test 2 = .ok (.invokevirtual 143, 3) := by decide +kernel
theorem dX7_test_5 : decode cX7_test 5 = .ok (.ifCond .ne 5, 3) := by decide +kernel
theorem dX7_test_8 : decode cX7_test 8 = .ok (.iconst (-1), 1) := by decide +kernel
theorem dX7_test_9 : decode cX7_test 9 = .ok (.ireturn, 1) := by decide +kernel
theorem dX7_test_10 : decode cX7_test 10 = .ok (.iload_n 2, 1) := by decide +kernel
theorem dX7_test_11 : decode cX7_test 11 = .ok (.iconst 0, 1) := by decide +kernel
theorem dX7_test_12 : decode cX7_test 12 = .ok (.iconst 3, 1) := by decide +kernel
theorem dX7_test_13 : decode cX7_test 13 = .ok (.invokestatic 39, 3) := by decide +kernel
theorem dX7_test_16 : decode cX7_test 16 = .ok (.ifCond .ne 6, 3) := by decide +kernel
theorem dX7_test_19 : decode cX7_test 19 = .ok (.bipush (-2), 2) := by decide +kernel
theorem dX7_test_21 : decode cX7_test 21 = .ok (.ireturn, 1) := by decide +kernel
theorem dX7_test_22 : decode cX7_test 22 = .ok (.aload_n 0, 1) := by decide +kernel
theorem dX7_test_23 : decode cX7_test 23 = .ok (.getfield 7, 3) := by decide +kernel
theorem dX7_test_26 : decode cX7_test 26 = .ok (.iconst 3, 1) := by decide +kernel
theorem dX7_test_27 : decode cX7_test 27 = .ok (.iaload, 1) := by decide +kernel
theorem dX7_test_28 : decode cX7_test 28 = .ok (.ifCond .ne 6, 3) := by decide +kernel
theorem dX7_test_31 : decode cX7_test 31 = .ok (.bipush (-5), 2) := by decide +kernel
theorem dX7_test_33 : decode cX7_test 33 = .ok (.ireturn, 1) := by decide +kernel
theorem dX7_test_34 : decode cX7_test 34 = .ok (.aload_n 0, 1) := by decide +kernel
theorem dX7_test_35 : decode cX7_test 35 = .ok (.iload_n 1, 1) := by decide +kernel
theorem dX7_test_36 : decode cX7_test 36 = .ok (.aload_n 0, 1) := by decide +kernel
theorem dX7_test_37 : decode cX7_test 37 = .ok (.iload_n 1, 1) := by decide +kernel
theorem dX7_test_38 : decode cX7_test 38 = .ok (.iconst 0, 1) := by decide +kernel
theorem dX7_test_39 : decode cX7_test 39 = .ok (.invokevirtual 64, 3) := by decide +kernel
theorem dX7_test_42 : decode cX7_test 42 = .ok (.invokevirtual 146, 3) := by decide +kernel
theorem dX7_test_45 : decode cX7_test 45 = .ok (.iload_n 2, 1) := by decide +kernel
theorem dX7_test_46 : decode cX7_test 46 = .ok (.ifCond .ne 10, 3) := by decide +kernel
theorem dX7_test_49 : decode cX7_test 49 = .ok (.aload_n 0, 1) := by decide +kernel
theorem dX7_test_50 : decode cX7_test 50 = .ok (.getfield 85, 3) := by decide +kernel
theorem dX7_test_53 : decode cX7_test 53 = .ok (.goto 49, 3) := by decide +kernel
theorem dX7_test_56 : decode cX7_test 56 = .ok (.iload_n 2, 1) := by decide +kernel
theorem dX7_test_57 : decode cX7_test 57 = .ok (.iconst 1, 1) := by decide +kernel
theorem dX7_test_58 : decode cX7_test 58 = .ok (.if_icmp .ne 24, 3) := by decide +kernel
theorem dX7_test_61 : decode cX7_test 61 = .ok (.aload_n 0, 1) := by decide +kernel
theorem dX7_test_62 : decode cX7_test 62 = .ok (.getfield 85, 3) := by decide +kernel
theorem dX7_test_65 : decode cX7_test 65 = .ok (.aload_n 0, 1) := by decide +kernel
theorem dX7_test_66 : decode cX7_test 66 = .ok (.getfield 7, 3) := by decide +kernel
theorem dX7_test_69 : decode cX7_test 69 = .ok (.iconst 2, 1) := by decide +kernel
theorem dX7_test_70 : decode cX7_test 70 = .ok (.iaload, 1) := by decide +kernel
theorem dX7_test_71 : decode cX7_test 71 = .ok (.if_icmp .gt 7, 3) := by decide +kernel
theorem dX7_test_74 : decode cX7_test 74 = .ok (.iconst 1, 1) := by decide +kernel
theorem dX7_test_75 : decode cX7_test 75 = .ok (.goto 27, 3) := by decide +kernel
theorem dX7_test_78 : decode cX7_test 78 = .ok (.iconst 0, 1) := by decide +kernel
theorem dX7_test_79 : decode cX7_test 79 = .ok (.goto 23, 3) := by decide +kernel
theorem dX7_test_82 : decode cX7_test 82 = .ok (.iload_n 2, 1) := by decide +kernel
theorem dX7_test_83 : decode cX7_test 83 = .ok (.iconst 2, 1) := by decide +kernel
theorem dX7_test_84 : decode cX7_test 84 = .ok (.if_icmp .ne 10, 3) := by decide +kernel
theorem dX7_test_87 : decode cX7_test 87 = .ok (.aload_n 0, 1) := by decide +kernel
theorem dX7_test_88 : decode cX7_test 88 = .ok (.getfield 88, 3) := by decide +kernel
theorem dX7_test_91 : decode cX7_test 91 = .ok (.goto 11, 3) := by decide +kernel
theorem dX7_test_94 : decode cX7_test 94 = .ok (.iconst 2, 1) := by decide +kernel
theorem dX7_test_95 : decode cX7_test 95 = .ok (.aload_n 0, 1) := by decide +kernel
theorem dX7_test_96 : decode cX7_test 96 = .ok (.getfield 7, 3) := by decide +kernel
theorem dX7_test_99 : decode cX7_test 99 = .ok (.iconst 3, 1) := by decide +kernel
theorem dX7_test_100 : decode cX7_test 100 = .ok (.iaload, 1) := by decide +kernel
theorem dX7_test_101 : decode cX7_test 101 = .ok (.imul, 1) := by decide +kernel
theorem dX7_test_102 : decode cX7_test 102 = .ok (.ireturn, 1) := by decide +kernel
theorem dX7_bestError_0 : decode cX7_bestError 0 = .ok (.aload_n 0, 1) := by decide +kernel
theorem dX7_bestError_1 : decode cX7_bestError 1 = .ok (.iload_n 1, 1) := by decide +kernel
theorem dX7_bestError_2 : decode cX7_bestError 2 = .ok (.invokevirtual 143, 3) := by decide +kernel
theorem dX7_bestError_5 : decode cX7_bestError 5 = .ok (.ifCond .ne 5, 3) := by decide +kernel
theorem dX7_bestError_8 : decode cX7_bestError 8 = .ok (.iconst (-1), 1) := by decide +kernel
theorem dX7_bestError_9 : decode cX7_bestError 9 = .ok (.ireturn, 1) := by decide +kernel
theorem dX7_bestError_10 : decode cX7_bestError 10 = .ok (.iload_n 2, 1) := by decide +kernel
theorem dX7_bestError_11 : decode cX7_bestError 11 = .ok (.iconst 0, 1) := by decide +kernel
theorem dX7_bestError_12 : decode cX7_bestError 12 = .ok (.iconst 1, 1) := by decide +kernel
theorem dX7_bestError_13 : decode cX7_bestError 13 = .ok (.invokestatic 39, 3) := by decide +kernel
theorem dX7_bestError_16 : decode cX7_bestError 16 = .ok (.ifCond .ne 6, 3) := by decide +kernel
theorem dX7_bestError_19 : decode cX7_bestError 19 = .ok (.bipush (-2), 2) := by decide +kernel
theorem dX7_bestError_21 : decode cX7_bestError 21 = .ok (.ireturn, 1) := by decide +kernel
theorem dX7_bestError_22 : decode cX7_bestError 22 = .ok (.aload_n 0, 1) := by decide +kernel
theorem dX7_bestError_23 : decode cX7_bestError 23 = .ok (.getfield 7, 3) := by decide +kernel
theorem dX7_bestError_26 : decode cX7_bestError 26 = .ok (.iconst 3, 1) := by decide +kernel
theorem dX7_bestError_27 : decode cX7_bestError 27 = .ok (.iaload, 1) := by decide +kernel
theorem dX7_bestError_28 : decode cX7_bestError 28 = .ok (.ifCond .ne 6, 3) := by decide +kernel
theorem dX7_bestError_31 : decode cX7_bestError 31 = .ok (.bipush (-5), 2) := by decide +kernel
theorem dX7_bestError_33 : decode cX7_bestError 33 = .ok (.ireturn, 1) := by decide +kernel
theorem dX7_bestError_34 : decode cX7_bestError 34 = .ok (.bipush (-99), 2) := by decide +kernel
theorem dX7_bestError_36 : decode cX7_bestError 36 = .ok (.istore_n 3, 1) := by decide +kernel
theorem dX7_bestError_37 : decode cX7_bestError 37 = .ok (.bipush (-6), 2) := by decide +kernel
theorem dX7_bestError_39 : decode cX7_bestError 39 = .ok (.istore 4, 2) := by decide +kernel
theorem dX7_bestError_41 : decode cX7_bestError 41 = .ok (.bipush (-99), 2) := by decide +kernel
theorem dX7_bestError_43 : decode cX7_bestError 43 = .ok (.istore 5, 2) := by decide +kernel
theorem dX7_bestError_45 : decode cX7_bestError 45 = .ok (.iload 5, 2) := by decide +kernel
theorem dX7_bestError_47 : decode cX7_bestError 47 = .ok (.bipush 99, 2) := by decide +kernel
theorem dX7_bestError_49 : decode cX7_bestError 49 = .ok (.if_icmp .gt 67, 3) := by decide +kernel
theorem dX7_bestError_52 : decode cX7_bestError 52 = .ok (.aload_n 0, 1) := by decide +kernel
theorem dX7_bestError_53 : decode cX7_bestError 53 = .ok (.iload_n 1, 1) := by decide +kernel
theorem dX7_bestError_54 : decode cX7_bestError 54 = .ok (.iload 5, 2) := by decide +kernel
theorem dX7_bestError_56 : decode cX7_bestError 56 = .ok (.invokevirtual 146, 3) := by decide +kernel
theorem dX7_bestError_59 : decode cX7_bestError 59 = .ok (.iload 4, 2) := by decide +kernel
theorem dX7_bestError_61 : decode cX7_bestError 61 = .ok (.bipush (-6), 2) := by decide +kernel
theorem dX7_bestError_63 : decode cX7_bestError 63 = .ok (.if_icmp .eq 12, 3) := by decide +kernel
theorem dX7_bestError_66 : decode cX7_bestError 66 = .ok (.aload_n 0, 1) := by decide +kernel
theorem dX7_bestError_67 : decode cX7_bestError 67 = .ok (.getfield 85, 3) := by decide +kernel
theorem dX7_bestError_70 : decode cX7_bestError 70 = .ok (.iload 4, 2) := by decide +kernel
theorem dX7_bestError_72 : decode cX7_bestError 72 = .ok (.if_icmp .ge 7, 3) := by decide +kernel
theorem dX7_bestError_75 : decode cX7_bestError 75 = .ok (.iconst 1, 1) := by decide +kernel
theorem dX7_bestError_76 : decode cX7_bestError 76 = .ok (.goto 4, 3) := by decide +kernel
theorem dX7_bestError_79 : decode cX7_bestError 79 = .ok (.iconst 0, 1) := by decide +kernel
theorem dX7_bestError_80 : decode cX7_bestError 80 = .ok (.istore 6, 2) := by decide +kernel
theorem dX7_bestError_82 : decode cX7_bestError 82 = .ok (.iload 6, 2) := by decide +kernel
theorem dX7_bestError_84 : decode cX7_bestError 84 = .ok (.ifCond .eq 8, 3) := by decide +kernel
theorem dX7_bestError_87 : decode cX7_bestError 87 = .ok (.iload 5, 2) := by decide +kernel
theorem dX7_bestError_89 : decode cX7_bestError 89 = .ok (.goto 4, 3) := by decide +kernel
theorem dX7_bestError_92 : decode cX7_bestError 92 = .ok (.iload_n 3, 1) := by decide +kernel
theorem dX7_bestError_93 : decode cX7_bestError 93 = .ok (.istore_n 3, 1) := by decide +kernel
theorem dX7_bestError_94 : decode cX7_bestError 94 = .ok (.iload 6, 2) := by decide +kernel
theorem dX7_bestError_96 : decode cX7_bestError 96 = .ok (.ifCond .eq 10, 3) := by decide +kernel
theorem dX7_bestError_99 : decode cX7_bestError 99 = .ok (.aload_n 0, 1) := by decide +kernel
theorem dX7_bestError_100 : decode cX7_bestError 100 = .ok (.getfield 85, 3) := by decide +kernel
theorem dX7_bestError_103 : decode cX7_bestError 103 = .ok (.goto 5, 3) := by decide +kernel
theorem dX7_bestError_106 : decode cX7_bestError 106 = .ok (.iload 4, 2) := by decide +kernel
theorem dX7_bestError_108 : decode cX7_bestError 108 = .ok (.istore 4, 2) := by decide +kernel
theorem dX7_bestError_110 : decode cX7_bestError 110 = .ok (.iinc 5 1, 3) := by decide +kernel
theorem dX7_bestError_113 : decode cX7_bestError 113 = .ok (.goto (-68), 3) := by decide +kernel
theorem dX7_bestError_116 : decode cX7_bestError 116 = .ok (.iload_n 2, 1) := by decide +kernel
theorem dX7_bestError_117 : decode cX7_bestError 117 = .ok (.ifCond .ne 10, 3) := by decide +kernel
theorem dX7_bestError_120 : decode cX7_bestError 120 = .ok (.iload_n 3, 1) := by decide +kernel
theorem dX7_bestError_121 : decode cX7_bestError 121 = .ok (.bipush 100, 2) := by decide +kernel
theorem dX7_bestError_123 : decode cX7_bestError 123 = .ok (.iadd, 1) := by decide +kernel
theorem dX7_bestError_124 : decode cX7_bestError 124 = .ok (.goto 5, 3) := by decide +kernel
theorem dX7_bestError_127 : decode cX7_bestError 127 = .ok (.iload 4, 2) := by decide +kernel
theorem dX7_bestError_129 : decode cX7_bestError 129 = .ok (.ireturn, 1) := by decide +kernel
theorem dX7_airCosts_0 : decode cX7_airCosts 0 = .ok (.iload_n 1, 1) := by decide +kernel
theorem dX7_airCosts_1 : decode cX7_airCosts 1 = .ok (.iconst 0, 1) := by decide +kernel
theorem dX7_airCosts_2 : decode cX7_airCosts 2 = .ok (.bipush 9, 2) := by decide +kernel
theorem dX7_airCosts_4 : decode cX7_airCosts 4 = .ok (.invokestatic 39, 3) := by decide +kernel
theorem dX7_airCosts_7 : decode cX7_airCosts 7 = .ok (.ifCond .ne 6, 3) := by decide +kernel
theorem dX7_airCosts_10 : decode cX7_airCosts 10 = .ok (.bipush (-2), 2) := by decide +kernel
theorem dX7_airCosts_12 : decode cX7_airCosts 12 = .ok (.ireturn, 1) := by decide +kernel
theorem dX7_airCosts_13 : decode cX7_airCosts 13 = .ok (.aload_n 0, 1) := by decide +kernel
theorem dX7_airCosts_14 : decode cX7_airCosts 14 = .ok (.aload_n 0, 1) := by decide +kernel
theorem dX7_airCosts_15 : decode cX7_airCosts 15 = .ok (.getfield 7, 3) := by decide +kernel
theorem dX7_airCosts_18 : decode cX7_airCosts 18 = .ok (.iconst 4, 1) := by decide +kernel
theorem dX7_airCosts_19 : decode cX7_airCosts 19 = .ok (.iaload, 1) := by decide +kernel
theorem dX7_airCosts_20 : decode cX7_airCosts 20 = .ok (.invokevirtual 51, 3) := by decide +kernel
theorem dX7_airCosts_23 : decode cX7_airCosts 23 = .ok (.istore_n 2, 1) := by decide +kernel
theorem dX7_airCosts_24 : decode cX7_airCosts 24 = .ok (.aload_n 0, 1) := by decide +kernel
theorem dX7_airCosts_25 : decode cX7_airCosts 25 = .ok (.iload_n 2, 1) := by decide +kernel
theorem dX7_airCosts_26 : decode cX7_airCosts 26 = .ok (.iload_n 1, 1) := by decide +kernel
theorem dX7_airCosts_27 : decode cX7_airCosts 27 = .ok (.invokevirtual 55, 3) := by decide +kernel
theorem dX7_airCosts_30 : decode cX7_airCosts 30 = .ok (.aload_n 0, 1) := by decide +kernel
theorem dX7_airCosts_31 : decode cX7_airCosts 31 = .ok (.iload_n 2, 1) := by decide +kernel
theorem dX7_airCosts_32 : decode cX7_airCosts 32 = .ok (.aload_n 0, 1) := by decide +kernel
theorem dX7_airCosts_33 : decode cX7_airCosts 33 = .ok (.getfield 7, 3) := by decide +kernel
theorem dX7_airCosts_36 : decode cX7_airCosts 36 = .ok (.iconst 0, 1) := by decide +kernel
theorem dX7_airCosts_37 : decode cX7_airCosts 37 = .ok (.iaload, 1) := by decide +kernel
theorem dX7_airCosts_38 : decode cX7_airCosts 38 = .ok (.invokevirtual 55, 3) := by decide +kernel
theorem dX7_airCosts_41 : decode cX7_airCosts 41 = .ok (.isub, 1) := by decide +kernel
theorem dX7_airCosts_42 : decode cX7_airCosts 42 = .ok (.sipush 10000, 3) := by decide +kernel
theorem dX7_airCosts_45 : decode cX7_airCosts 45 = .ok (.iadd, 1) := by decide +kernel
theorem dX7_airCosts_46 : decode cX7_airCosts 46 = .ok (.ireturn, 1) := by decide +kernel
theorem dX7_put_0 : decode cX7_put 0 = .ok (.iconst 0, 1) := by decide +kernel
theorem dX7_put_1 : decode cX7_put 1 = .ok (.istore_n 3, 1) := by decide +kernel
theorem dX7_put_2 : decode cX7_put 2 = .ok (.lload_n 1, 1) := by decide +kernel
theorem dX7_put_3 : decode cX7_put 3 = .ok (.lstore 4, 2) := by decide +kernel
theorem dX7_put_5 : decode cX7_put 5 = .ok (.iconst 1, 1) := by decide +kernel
theorem dX7_put_6 : decode cX7_put 6 = .ok (.istore 6, 2) := by decide +kernel
theorem dX7_put_8 : decode cX7_put 8 = .ok (.iload_n 3, 1) := by decide +kernel
theorem dX7_put_9 : decode cX7_put 9 = .ok (.bipush 8, 2) := by decide +kernel
theorem dX7_put_11 : decode cX7_put 11 = .ok (.if_icmp .ge 56, 3) := by decide +kernel
theorem dX7_put_14 : decode cX7_put 14 = .ok (.lload 4, 2) := by decide +kernel
theorem dX7_put_16 : decode cX7_put 16 = .ok (.ldc2_w 169, 3) := by decide +kernel
theorem dX7_put_19 : decode cX7_put 19 = .ok (.land, 1) := by decide +kernel
theorem dX7_put_20 : decode cX7_put 20 = .ok (.lconst 0, 1) := by decide +kernel
theorem dX7_put_21 : decode cX7_put 21 = .ok (.lcmp, 1) := by decide +kernel
theorem dX7_put_22 : decode cX7_put 22 = .ok (.ifCond .eq 45, 3) := by decide +kernel
theorem dX7_put_25 : decode cX7_put 25 = .ok (.iload 6, 2) := by decide +kernel
theorem dX7_put_27 : decode cX7_put 27 = .ok (.ifCond .eq 24, 3) := by decide +kernel
theorem dX7_put_30 : decode cX7_put 30 = .ok (.lload 4, 2) := by decide +kernel
theorem dX7_put_32 : decode cX7_put 32 = .ok (.ldc2_w 169, 3) := by decide +kernel
theorem dX7_put_35 : decode cX7_put 35 = .ok (.land, 1) := by decide +kernel
theorem dX7_put_36 : decode cX7_put 36 = .ok (.l2i, 1) := by decide +kernel
theorem dX7_put_37 : decode cX7_put 37 = .ok (.bipush 33, 2) := by decide +kernel
theorem dX7_put_39 : decode cX7_put 39 = .ok (.bipush 126, 2) := by decide +kernel
theorem dX7_put_41 : decode cX7_put 41 = .ok (.invokestatic 39, 3) := by decide +kernel
theorem dX7_put_44 : decode cX7_put 44 = .ok (.ifCond .eq 7, 3) := by decide +kernel
theorem dX7_put_47 : decode cX7_put 47 = .ok (.iconst 1, 1) := by decide +kernel
theorem dX7_put_48 : decode cX7_put 48 = .ok (.goto 4, 3) := by decide +kernel
theorem dX7_put_51 : decode cX7_put 51 = .ok (.iconst 0, 1) := by decide +kernel
theorem dX7_put_52 : decode cX7_put 52 = .ok (.istore 6, 2) := by decide +kernel
theorem dX7_put_54 : decode cX7_put 54 = .ok (.lload 4, 2) := by decide +kernel
theorem dX7_put_56 : decode cX7_put 56 = .ok (.bipush 8, 2) := by decide +kernel
theorem dX7_put_58 : decode cX7_put 58 = .ok (.lushr, 1) := by decide +kernel
theorem dX7_put_59 : decode cX7_put 59 = .ok (.lstore 4, 2) := by decide +kernel
theorem dX7_put_61 : decode cX7_put 61 = .ok (.iinc 3 1, 3) := by decide +kernel
theorem dX7_put_64 : decode cX7_put 64 = .ok (.goto (-56), 3) := by decide +kernel
theorem dX7_put_67 : decode cX7_put 67 = .ok (.iload_n 3, 1) := by decide +kernel
theorem dX7_put_68 : decode cX7_put 68 = .ok (.ifCond .eq 15, 3) := by decide +kernel
theorem dX7_put_71 : decode cX7_put 71 = .ok (.iload 6, 2) := by decide +kernel
theorem dX7_put_73 : decode cX7_put 73 = .ok (.ifCond .eq 10, 3) := by decide +kernel
theorem dX7_put_76 : decode cX7_put 76 = .ok (.lload 4, 2) := by decide +kernel
theorem dX7_put_78 : decode cX7_put 78 = .ok (.lconst 0, 1) := by decide +kernel
theorem dX7_put_79 : decode cX7_put 79 = .ok (.lcmp, 1) := by decide +kernel
theorem dX7_put_80 : decode cX7_put 80 = .ok (.ifCond .eq 6, 3) := by decide +kernel
theorem dX7_put_83 : decode cX7_put 83 = .ok (.bipush (-2), 2) := by decide +kernel
theorem dX7_put_85 : decode cX7_put 85 = .ok (.ireturn, 1) := by decide +kernel
theorem dX7_put_86 : decode cX7_put 86 = .ok (.aload_n 0, 1) := by decide +kernel
theorem dX7_put_87 : decode cX7_put 87 = .ok (.getfield 163, 3) := by decide +kernel
theorem dX7_put_90 : decode cX7_put 90 = .ok (.iload_n 3, 1) := by decide +kernel
theorem dX7_put_91 : decode cX7_put 91 = .ok (.iadd, 1) := by decide +kernel
theorem dX7_put_92 : decode cX7_put 92 = .ok (.bipush 80, 2) := by decide +kernel
theorem dX7_put_94 : decode cX7_put 94 = .ok (.if_icmp .le 6, 3) := by decide +kernel
theorem dX7_put_97 : decode cX7_put 97 = .ok (.bipush (-4), 2) := by decide +kernel
theorem dX7_put_99 : decode cX7_put 99 = .ok (.ireturn, 1) := by decide +kernel
theorem dX7_put_100 : decode cX7_put 100 = .ok (.iload_n 3, 1) := by decide +kernel
theorem dX7_put_101 : decode cX7_put 101 = .ok (.iconst 1, 1) := by decide +kernel
theorem dX7_put_102 : decode cX7_put 102 = .ok (.isub, 1) := by decide +kernel
theorem dX7_put_103 : decode cX7_put 103 = .ok (.istore 7, 2) := by decide +kernel
theorem dX7_put_105 : decode cX7_put 105 = .ok (.iload 7, 2) := by decide +kernel
theorem dX7_put_107 : decode cX7_put 107 = .ok (.ifCond .lt 40, 3) := by decide +kernel
theorem dX7_put_110 : decode cX7_put 110 = .ok (.aload_n 0, 1) := by decide +kernel
theorem dX7_put_111 : decode cX7_put 111 = .ok (.getfield 22, 3) := by decide +kernel
theorem dX7_put_114 : decode cX7_put 114 = .ok (.aload_n 0, 1) := by decide +kernel
theorem dX7_put_115 : decode cX7_put 115 = .ok (.getfield 163, 3) := by decide +kernel
theorem dX7_put_118 : decode cX7_put 118 = .ok (.lload_n 1, 1) := by decide +kernel
theorem dX7_put_119 : decode cX7_put 119 = .ok (.bipush 8, 2) := by decide +kernel
theorem dX7_put_121 : decode cX7_put 121 = .ok (.iload 7, 2) := by decide +kernel
theorem dX7_put_123 : decode cX7_put 123 = .ok (.imul, 1) := by decide +kernel
theorem dX7_put_124 : decode cX7_put 124 = .ok (.lushr, 1) := by decide +kernel
theorem dX7_put_125 : decode cX7_put 125 = .ok (.ldc2_w 169, 3) := by decide +kernel
theorem dX7_put_128 : decode cX7_put 128 = .ok (.land, 1) := by decide +kernel
theorem dX7_put_129 : decode cX7_put 129 = .ok (.l2i, 1) := by decide +kernel
theorem dX7_put_130 : decode cX7_put 130 = .ok (.iastore, 1) := by decide +kernel
theorem dX7_put_131 : decode cX7_put 131 = .ok (.aload_n 0, 1) := by decide +kernel
theorem dX7_put_132 : decode cX7_put 132 = .ok (.dup, 1) := by decide +kernel
theorem dX7_put_133 : decode cX7_put 133 = .ok (.getfield 163, 3) := by decide +kernel
theorem dX7_put_136 : decode cX7_put 136 = .ok (.iconst 1, 1) := by decide +kernel
theorem dX7_put_137 : decode cX7_put 137 = .ok (.iadd, 1) := by decide +kernel
theorem dX7_put_138 : decode cX7_put 138 = .ok (.putfield 163, 3) := by decide +kernel
theorem dX7_put_141 : decode cX7_put 141 = .ok (.iinc 7 (-1), 3) := by decide +kernel
theorem dX7_put_144 : decode cX7_put 144 = .ok (.goto (-39), 3) := by decide +kernel
theorem dX7_put_147 : decode cX7_put 147 = .ok (.aload_n 0, 1) := by decide +kernel
theorem dX7_put_148 : decode cX7_put 148 = .ok (.getfield 163, 3) := by decide +kernel
theorem dX7_put_151 : decode cX7_put 151 = .ok (.ireturn, 1) := by decide +kernel
theorem dX7_wipe_0 : decode cX7_wipe 0 = .ok (.aload_n 0, 1) := by decide +kernel
theorem dX7_wipe_1 : decode cX7_wipe 1 = .ok (.getfield 163, 3) := by decide +kernel
theorem dX7_wipe_4 : decode cX7_wipe 4 = .ok (.istore_n 1, 1) := by decide +kernel
theorem dX7_wipe_5 : decode cX7_wipe 5 = .ok (.aload_n 0, 1) := by decide +kernel
theorem dX7_wipe_6 : decode cX7_wipe 6 = .ok (.iconst 0, 1) := by decide +kernel
theorem dX7_wipe_7 : decode cX7_wipe 7 = .ok (.putfield 163, 3) := by decide +kernel
theorem dX7_wipe_10 : decode cX7_wipe 10 = .ok (.iload_n 1, 1) := by decide +kernel
theorem dX7_wipe_11 : decode cX7_wipe 11 = .ok (.ireturn, 1) := by decide +kernel
theorem dX7_character_0 : decode cX7_character 0 = .ok (.iload_n 1, 1) := by decide +kernel
theorem dX7_character_1 : decode cX7_character 1 = .ok (.aload_n 0, 1) := by decide +kernel
theorem dX7_character_2 : decode cX7_character 2 = .ok (.getfield 163, 3) := by decide +kernel
theorem dX7_character_5 : decode cX7_character 5 = .ok (.if_icmp .ge 12, 3) := by decide +kernel
theorem dX7_character_8 : decode cX7_character 8 = .ok (.aload_n 0, 1) := by decide +kernel
theorem dX7_character_9 : decode cX7_character 9 = .ok (.getfield 22, 3) := by decide +kernel
theorem dX7_character_12 : decode cX7_character 12 = .ok (.iload_n 1, 1) := by decide +kernel
theorem dX7_character_13 : decode cX7_character 13 = .ok (.iaload, 1) := by decide +kernel
theorem dX7_character_14 : decode cX7_character 14 = .ok (.goto 4, 3) := by decide +kernel
theorem dX7_character_17 : decode cX7_character 17 = .ok (.iconst (-1), 1) := by decide +kernel
theorem dX7_character_18 : decode cX7_character 18 = .ok (.ireturn, 1) := by decide +kernel
theorem dX7_isNext_0 : decode cX7_isNext 0 = .ok (.aload_n 0, 1) := by decide +kernel
theorem dX7_isNext_1 : decode cX7_isNext 1 = .ok (.aload_n 0, 1) := by decide +kernel
theorem dX7_isNext_2 : decode cX7_isNext 2 = .ok (.getfield 171, 3) := by decide +kernel
theorem dX7_isNext_5 : decode cX7_isNext 5 = .ok (.invokevirtual 174, 3) := by decide +kernel
theorem dX7_isNext_8 : decode cX7_isNext 8 = .ok (.iload_n 1, 1) := by decide +kernel
theorem dX7_isNext_9 : decode cX7_isNext 9 = .ok (.if_icmp .ne 7, 3) := by decide +kernel
theorem dX7_isNext_12 : decode cX7_isNext 12 = .ok (.iconst 1, 1) := by decide +kernel
theorem dX7_isNext_13 : decode cX7_isNext 13 = .ok (.goto 4, 3) := by decide +kernel
theorem dX7_isNext_16 : decode cX7_isNext 16 = .ok (.iconst 0, 1) := by decide +kernel
theorem dX7_isNext_17 : decode cX7_isNext 17 = .ok (.istore_n 2, 1) := by decide +kernel
theorem dX7_isNext_18 : decode cX7_isNext 18 = .ok (.aload_n 0, 1) := by decide +kernel
theorem dX7_isNext_19 : decode cX7_isNext 19 = .ok (.dup, 1) := by decide +kernel
theorem dX7_isNext_20 : decode cX7_isNext 20 = .ok (.getfield 171, 3) := by decide +kernel
theorem dX7_isNext_23 : decode cX7_isNext 23 = .ok (.iload_n 2, 1) := by decide +kernel
theorem dX7_isNext_24 : decode cX7_isNext 24 = .ok (.ifCond .eq 7, 3) := by decide +kernel
theorem dX7_isNext_27 : decode cX7_isNext 27 = .ok (.iconst 1, 1) := by decide +kernel
theorem dX7_isNext_28 : decode cX7_isNext 28 = .ok (.goto 4, 3) := by decide +kernel
theorem dX7_isNext_31 : decode cX7_isNext 31 = .ok (.iconst 0, 1) := by decide +kernel
theorem dX7_isNext_32 : decode cX7_isNext 32 = .ok (.iadd, 1) := by decide +kernel
theorem dX7_isNext_33 : decode cX7_isNext 33 = .ok (.putfield 171, 3) := by decide +kernel
theorem dX7_isNext_36 : decode cX7_isNext 36 = .ok (.iload_n 2, 1) := by decide +kernel
theorem dX7_isNext_37 : decode cX7_isNext 37 = .ok (.ireturn, 1) := by decide +kernel
theorem dX7_takeDigit_0 : decode cX7_takeDigit 0 = .ok (.aload_n 0, 1) := by decide +kernel
theorem dX7_takeDigit_1 : decode cX7_takeDigit 1 = .ok (.aload_n 0, 1) := by decide +kernel
theorem dX7_takeDigit_2 : decode cX7_takeDigit 2 = .ok (.getfield 171, 3) := by decide +kernel
theorem dX7_takeDigit_5 : decode cX7_takeDigit 5 = .ok (.invokevirtual 174, 3) := by decide +kernel
theorem dX7_takeDigit_8 : decode cX7_takeDigit 8 = .ok (.bipush 48, 2) := by decide +kernel
theorem dX7_takeDigit_10 : decode cX7_takeDigit 10 = .ok (.isub, 1) := by decide +kernel
theorem dX7_takeDigit_11 : decode cX7_takeDigit 11 = .ok (.istore_n 1, 1) := by decide +kernel
theorem dX7_takeDigit_12 : decode cX7_takeDigit 12 = .ok (.iload_n 1, 1) := by decide +kernel
theorem dX7_takeDigit_13 : decode cX7_takeDigit 13 = .ok (.iconst 0, 1) := by decide +kernel
theorem dX7_takeDigit_14 : decode cX7_takeDigit 14 = .ok (.bipush 9, 2) := by decide +kernel
theorem dX7_takeDigit_16 : decode cX7_takeDigit 16 = .ok (.invokestatic 39, 3) := by decide +kernel
theorem dX7_takeDigit_19 : decode cX7_takeDigit 19 = .ok (.ifCond .ne 5, 3) := by decide +kernel
theorem dX7_takeDigit_22 : decode cX7_takeDigit 22 = .ok (.iconst (-1), 1) := by decide +kernel
theorem dX7_takeDigit_23 : decode cX7_takeDigit 23 = .ok (.ireturn, 1) := by decide +kernel
theorem dX7_takeDigit_24 : decode cX7_takeDigit 24 = .ok (.aload_n 0, 1) := by decide +kernel
theorem dX7_takeDigit_25 : decode cX7_takeDigit 25 = .ok (.dup, 1) := by decide +kernel
theorem dX7_takeDigit_26 : decode cX7_takeDigit 26 = .ok (.getfield 171, 3) := by decide +kernel
theorem dX7_takeDigit_29 : decode cX7_takeDigit 29 = .ok (.iconst 1, 1) := by decide +kernel
theorem dX7_takeDigit_30 : decode cX7_takeDigit 30 = .ok (.iadd, 1) := by decide +kernel
theorem dX7_takeDigit_31 : decode cX7_takeDigit 31 = .ok (.putfield 171, 3) := by decide +kernel
theorem dX7_takeDigit_34 : decode cX7_takeDigit 34 = .ok (.iload_n 1, 1) := by decide +kernel
theorem dX7_takeDigit_35 : decode cX7_takeDigit 35 = .ok (.ireturn, 1) := by decide +kernel
theorem dX7_takeNumber_0 : decode cX7_takeNumber 0 = .ok (.aload_n 0, 1) := by decide +kernel
theorem dX7_takeNumber_1 : decode cX7_takeNumber 1 = .ok (.invokevirtual 177, 3) := by decide +kernel
theorem dX7_takeNumber_4 : decode cX7_takeNumber 4 = .ok (.istore_n 1, 1) := by decide +kernel
theorem dX7_takeNumber_5 : decode cX7_takeNumber 5 = .ok (.iload_n 1, 1) := by decide +kernel
theorem dX7_takeNumber_6 : decode cX7_takeNumber 6 = .ok (.ifCond .le 41, 3) := by decide +kernel
theorem dX7_takeNumber_9 : decode cX7_takeNumber 9 = .ok (.iload_n 1, 1) := by decide +kernel
theorem dX7_takeNumber_10 : decode cX7_takeNumber 10 = .ok (.sipush 1000, 3) := by decide +kernel
theorem dX7_takeNumber_13 : decode cX7_takeNumber 13 = .ok (.if_icmp .ge 34, 3) := by decide +kernel
theorem dX7_takeNumber_16 : decode cX7_takeNumber 16 = .ok (.aload_n 0, 1) := by decide +kernel
theorem dX7_takeNumber_17 : decode cX7_takeNumber 17 = .ok (.aload_n 0, 1) := by decide +kernel
theorem dX7_takeNumber_18 : decode cX7_takeNumber 18 = .ok (.getfield 171, 3) := by decide +kernel
theorem dX7_takeNumber_21 : decode cX7_takeNumber 21 = .ok (.invokevirtual 174, 3) := by decide +kernel
theorem dX7_takeNumber_24 : decode cX7_takeNumber 24 = .ok (.bipush 48, 2) := by decide +kernel
theorem dX7_takeNumber_26 : decode cX7_takeNumber 26 = .ok (.bipush 57, 2) := by decide +kernel
theorem dX7_takeNumber_28 : decode cX7_takeNumber 28 = .ok (.invokestatic 39, 3) := by decide +kernel
theorem dX7_takeNumber_31 : decode cX7_takeNumber 31 = .ok (.ifCond .eq 16, 3) := by decide +kernel
theorem dX7_takeNumber_34 : decode cX7_takeNumber 34 = .ok (.bipush 10, 2) := by decide +kernel
theorem dX7_takeNumber_36 : decode cX7_takeNumber 36 = .ok (.iload_n 1, 1) := by decide +kernel
theorem dX7_takeNumber_37 : decode cX7_takeNumber 37 = .ok (.imul, 1) := by decide +kernel
theorem dX7_takeNumber_38 : decode cX7_takeNumber 38 = .ok (.aload_n 0, 1) := by decide +kernel
theorem dX7_takeNumber_39 : decode cX7_takeNumber 39 = .ok (.invokevirtual 177, 3) := by decide +kernel
theorem dX7_takeNumber_42 : decode cX7_takeNumber 42 = .ok (.iadd, 1) := by decide +kernel
theorem dX7_takeNumber_43 : decode cX7_takeNumber 43 = .ok (.istore_n 1, 1) := by decide +kernel
theorem dX7_takeNumber_44 : decode cX7_takeNumber 44 = .ok (.goto (-39), 3) := by decide +kernel
theorem dX7_takeNumber_47 : decode cX7_takeNumber 47 = .ok (.iload_n 1, 1) := by decide +kernel
theorem dX7_takeNumber_48 : decode cX7_takeNumber 48 = .ok (.ireturn, 1) := by decide +kernel
theorem dX7_readsGauge_0 : decode cX7_readsGauge 0 = .ok (.aload_n 0, 1) := by decide +kernel
theorem dX7_readsGauge_1 : decode cX7_readsGauge 1 = .ok (.bipush 45, 2) := by decide +kernel
theorem dX7_readsGauge_3 : decode cX7_readsGauge 3 = .ok (.invokevirtual 180, 3) := by decide +kernel
theorem dX7_readsGauge_6 : decode cX7_readsGauge 6 = .ok (.istore_n 1, 1) := by decide +kernel
theorem dX7_readsGauge_7 : decode cX7_readsGauge 7 = .ok (.aload_n 0, 1) := by decide +kernel
theorem dX7_readsGauge_8 : decode cX7_readsGauge 8 = .ok (.invokevirtual 183, 3) := by decide +kernel
theorem dX7_readsGauge_11 : decode cX7_readsGauge 11 = .ok (.istore_n 2, 1) := by decide +kernel
theorem dX7_readsGauge_12 : decode cX7_readsGauge 12 = .ok (.aload_n 0, 1) := by decide +kernel
theorem dX7_readsGauge_13 : decode cX7_readsGauge 13 = .ok (.iload_n 1, 1) := by decide +kernel
theorem dX7_readsGauge_14 : decode cX7_readsGauge 14 = .ok (.ifCond .eq 8, 3) := by decide +kernel
theorem dX7_readsGauge_17 : decode cX7_readsGauge 17 = .ok (.iload_n 2, 1) := by decide +kernel
theorem dX7_readsGauge_18 : decode cX7_readsGauge 18 = .ok (.ineg, 1) := by decide +kernel
theorem dX7_readsGauge_19 : decode cX7_readsGauge 19 = .ok (.goto 4, 3) := by decide +kernel
theorem dX7_readsGauge_22 : decode cX7_readsGauge 22 = .ok (.iload_n 2, 1) := by decide +kernel
theorem dX7_readsGauge_23 : decode cX7_readsGauge 23 = .ok (.putfield 186, 3) := by decide +kernel
theorem dX7_readsGauge_26 : decode cX7_readsGauge 26 = .ok (.aload_n 0, 1) := by decide +kernel
theorem dX7_readsGauge_27 : decode cX7_readsGauge 27 = .ok (.iload_n 2, 1) := by decide +kernel
theorem dX7_readsGauge_28 : decode cX7_readsGauge 28 = .ok (.ifCond .lt 19, 3) := by decide +kernel
theorem dX7_readsGauge_31 : decode cX7_readsGauge 31 = .ok (.aload_n 0, 1) := by decide +kernel
theorem dX7_readsGauge_32 : decode cX7_readsGauge 32 = .ok (.bipush 44, 2) := by decide +kernel
theorem dX7_readsGauge_34 : decode cX7_readsGauge 34 = .ok (.invokevirtual 180, 3) := by decide +kernel
theorem dX7_readsGauge_37 : decode cX7_readsGauge 37 = .ok (.ifCond .eq 10, 3) := by decide +kernel
theorem dX7_readsGauge_40 : decode cX7_readsGauge 40 = .ok (.aload_n 0, 1) := by decide +kernel
theorem dX7_readsGauge_41 : decode cX7_readsGauge 41 = .ok (.invokevirtual 183, 3) := by decide +kernel
theorem dX7_readsGauge_44 : decode cX7_readsGauge 44 = .ok (.goto 4, 3) := by decide +kernel
theorem dX7_readsGauge_47 : decode cX7_readsGauge 47 = .ok (.iconst (-1), 1) := by decide +kernel
theorem dX7_readsGauge_48 : decode cX7_readsGauge 48 = .ok (.putfield 189, 3) := by decide +kernel
theorem dX7_readsGauge_51 : decode cX7_readsGauge 51 = .ok (.aload_n 0, 1) := by decide +kernel
theorem dX7_readsGauge_52 : decode cX7_readsGauge 52 = .ok (.aload_n 0, 1) := by decide +kernel
theorem dX7_readsGauge_53 : decode cX7_readsGauge 53 = .ok (.getfield 189, 3) := by decide +kernel
theorem dX7_readsGauge_56 : decode cX7_readsGauge 56 = .ok (.ifCond .lt 19, 3) := by decide +kernel
theorem dX7_readsGauge_59 : decode cX7_readsGauge 59 = .ok (.aload_n 0, 1) := by decide +kernel
theorem dX7_readsGauge_60 : decode cX7_readsGauge 60 = .ok (.bipush 44, 2) := by decide +kernel
theorem dX7_readsGauge_62 : decode cX7_readsGauge 62 = .ok (.invokevirtual 180, 3) := by decide +kernel
theorem dX7_readsGauge_65 : decode cX7_readsGauge 65 = .ok (.ifCond .eq 10, 3) := by decide +kernel
theorem dX7_readsGauge_68 : decode cX7_readsGauge 68 = .ok (.aload_n 0, 1) := by decide +kernel
theorem dX7_readsGauge_69 : decode cX7_readsGauge 69 = .ok (.invokevirtual 183, 3) := by decide +kernel
theorem dX7_readsGauge_72 : decode cX7_readsGauge 72 = .ok (.goto 4, 3) := by decide +kernel
theorem dX7_readsGauge_75 : decode cX7_readsGauge 75 = .ok (.iconst (-1), 1) := by decide +kernel
theorem dX7_readsGauge_76 : decode cX7_readsGauge 76 = .ok (.putfield 192, 3) := by decide +kernel
theorem dX7_readsGauge_79 : decode cX7_readsGauge 79 = .ok (.aload_n 0, 1) := by decide +kernel
theorem dX7_readsGauge_80 : decode cX7_readsGauge 80 = .ok (.getfield 192, 3) := by decide +kernel
theorem dX7_readsGauge_83 : decode cX7_readsGauge 83 = .ok (.ifCond .lt 7, 3) := by decide +kernel
theorem dX7_readsGauge_86 : decode cX7_readsGauge 86 = .ok (.iconst 1, 1) := by decide +kernel
theorem dX7_readsGauge_87 : decode cX7_readsGauge 87 = .ok (.goto 4, 3) := by decide +kernel
theorem dX7_readsGauge_90 : decode cX7_readsGauge 90 = .ok (.iconst 0, 1) := by decide +kernel
theorem dX7_readsGauge_91 : decode cX7_readsGauge 91 = .ok (.ireturn, 1) := by decide +kernel
theorem dX7_readsOrder_0 : decode cX7_readsOrder 0 = .ok (.aload_n 0, 1) := by decide +kernel
theorem dX7_readsOrder_1 : decode cX7_readsOrder 1 = .ok (.aload_n 0, 1) := by decide +kernel
theorem dX7_readsOrder_2 : decode cX7_readsOrder 2 = .ok (.aload_n 0, 1) := by decide +kernel
theorem dX7_readsOrder_3 : decode cX7_readsOrder 3 = .ok (.getfield 171, 3) := by decide +kernel
theorem dX7_readsOrder_6 : decode cX7_readsOrder 6 = .ok (.invokevirtual 174, 3) := by decide +kernel
theorem dX7_readsOrder_9 : decode cX7_readsOrder 9 = .ok (.putfield 195, 3) := by decide +kernel
theorem dX7_readsOrder_12 : decode cX7_readsOrder 12 = .ok (.aload_n 0, 1) := by decide +kernel
theorem dX7_readsOrder_13 : decode cX7_readsOrder 13 = .ok (.dup, 1) := by decide +kernel
theorem dX7_readsOrder_14 : decode cX7_readsOrder 14 = .ok (.getfield 171, 3) := by decide +kernel
theorem dX7_readsOrder_17 : decode cX7_readsOrder 17 = .ok (.iconst 1, 1) := by decide +kernel
theorem dX7_readsOrder_18 : decode cX7_readsOrder 18 = .ok (.iadd, 1) := by decide +kernel
theorem dX7_readsOrder_19 : decode cX7_readsOrder 19 = .ok (.putfield 171, 3) := by decide +kernel
theorem dX7_readsOrder_22 : decode cX7_readsOrder 22 = .ok (.aload_n 0, 1) := by decide +kernel
theorem dX7_readsOrder_23 : decode cX7_readsOrder 23 = .ok (.getfield 195, 3) := by decide +kernel
theorem dX7_readsOrder_26 : decode cX7_readsOrder 26 = .ok (.lookupswitch 105 #[(43, 58), (45, 58), (97, 79), (103, 100), (109, 58), (116, 58)], 58) := by decide +kernel
theorem dX7_readsOrder_84 : decode cX7_readsOrder 84 = .ok (.aload_n 0, 1) := by decide +kernel
theorem dX7_readsOrder_85 : decode cX7_readsOrder 85 = .ok (.aload_n 0, 1) := by decide +kernel
theorem dX7_readsOrder_86 : decode cX7_readsOrder 86 = .ok (.invokevirtual 183, 3) := by decide +kernel
theorem dX7_readsOrder_89 : decode cX7_readsOrder 89 = .ok (.putfield 186, 3) := by decide +kernel
theorem dX7_readsOrder_92 : decode cX7_readsOrder 92 = .ok (.aload_n 0, 1) := by decide +kernel
theorem dX7_readsOrder_93 : decode cX7_readsOrder 93 = .ok (.getfield 186, 3) := by decide +kernel
theorem dX7_readsOrder_96 : decode cX7_readsOrder 96 = .ok (.ifCond .lt 7, 3) := by decide +kernel
theorem dX7_readsOrder_99 : decode cX7_readsOrder 99 = .ok (.iconst 1, 1) := by decide +kernel
theorem dX7_readsOrder_100 : decode cX7_readsOrder 100 = .ok (.goto 4, 3) := by decide +kernel
theorem dX7_readsOrder_103 : decode cX7_readsOrder 103 = .ok (.iconst 0, 1) := by decide +kernel
theorem dX7_readsOrder_104 : decode cX7_readsOrder 104 = .ok (.ireturn, 1) := by decide +kernel
theorem dX7_readsOrder_105 : decode cX7_readsOrder 105 = .ok (.aload_n 0, 1) := by decide +kernel
theorem dX7_readsOrder_106 : decode cX7_readsOrder 106 = .ok (.aload_n 0, 1) := by decide +kernel
theorem dX7_readsOrder_107 : decode cX7_readsOrder 107 = .ok (.invokevirtual 177, 3) := by decide +kernel
theorem dX7_readsOrder_110 : decode cX7_readsOrder 110 = .ok (.putfield 186, 3) := by decide +kernel
theorem dX7_readsOrder_113 : decode cX7_readsOrder 113 = .ok (.aload_n 0, 1) := by decide +kernel
theorem dX7_readsOrder_114 : decode cX7_readsOrder 114 = .ok (.getfield 186, 3) := by decide +kernel
theorem dX7_readsOrder_117 : decode cX7_readsOrder 117 = .ok (.ifCond .lt 7, 3) := by decide +kernel
theorem dX7_readsOrder_120 : decode cX7_readsOrder 120 = .ok (.iconst 1, 1) := by decide +kernel
theorem dX7_readsOrder_121 : decode cX7_readsOrder 121 = .ok (.goto 4, 3) := by decide +kernel
theorem dX7_readsOrder_124 : decode cX7_readsOrder 124 = .ok (.iconst 0, 1) := by decide +kernel
theorem dX7_readsOrder_125 : decode cX7_readsOrder 125 = .ok (.ireturn, 1) := by decide +kernel
theorem dX7_readsOrder_126 : decode cX7_readsOrder 126 = .ok (.aload_n 0, 1) := by decide +kernel
theorem dX7_readsOrder_127 : decode cX7_readsOrder 127 = .ok (.invokevirtual 198, 3) := by decide +kernel
theorem dX7_readsOrder_130 : decode cX7_readsOrder 130 = .ok (.ireturn, 1) := by decide +kernel
theorem dX7_readsOrder_131 : decode cX7_readsOrder 131 = .ok (.aload_n 0, 1) := by decide +kernel
theorem dX7_readsOrder_132 : decode cX7_readsOrder 132 = .ok (.dup, 1) := by decide +kernel
theorem dX7_readsOrder_133 : decode cX7_readsOrder 133 = .ok (.getfield 171, 3) := by decide +kernel
theorem dX7_readsOrder_136 : decode cX7_readsOrder 136 = .ok (.iconst 1, 1) := by decide +kernel
theorem dX7_readsOrder_137 : decode cX7_readsOrder 137 = .ok (.isub, 1) := by decide +kernel
theorem dX7_readsOrder_138 : decode cX7_readsOrder 138 = .ok (.putfield 171, 3) := by decide +kernel
theorem dX7_readsOrder_141 : decode cX7_readsOrder 141 = .ok (.iconst 0, 1) := by decide +kernel
theorem dX7_readsOrder_142 : decode cX7_readsOrder 142 = .ok (.ireturn, 1) := by decide +kernel
theorem dX7_findFault_0 : decode cX7_findFault 0 = .ok (.aload_n 0, 1) := by decide +kernel
theorem dX7_findFault_1 : decode cX7_findFault 1 = .ok (.iconst 0, 1) := by decide +kernel
theorem dX7_findFault_2 : decode cX7_findFault 2 = .ok (.putfield 171, 3) := by decide +kernel
theorem dX7_findFault_5 : decode cX7_findFault 5 = .ok (.aload_n 0, 1) := by decide +kernel
theorem dX7_findFault_6 : decode cX7_findFault 6 = .ok (.invokevirtual 202, 3) := by decide +kernel
theorem dX7_findFault_9 : decode cX7_findFault 9 = .ok (.ifCond .ne 8, 3) := by decide +kernel
theorem dX7_findFault_12 : decode cX7_findFault 12 = .ok (.aload_n 0, 1) := by decide +kernel
theorem dX7_findFault_13 : decode cX7_findFault 13 = .ok (.getfield 171, 3) := by decide +kernel
theorem dX7_findFault_16 : decode cX7_findFault 16 = .ok (.ireturn, 1) := by decide +kernel
theorem dX7_findFault_17 : decode cX7_findFault 17 = .ok (.aload_n 0, 1) := by decide +kernel
theorem dX7_findFault_18 : decode cX7_findFault 18 = .ok (.getfield 171, 3) := by decide +kernel
theorem dX7_findFault_21 : decode cX7_findFault 21 = .ok (.aload_n 0, 1) := by decide +kernel
theorem dX7_findFault_22 : decode cX7_findFault 22 = .ok (.getfield 163, 3) := by decide +kernel
theorem dX7_findFault_25 : decode cX7_findFault 25 = .ok (.if_icmp .ne 6, 3) := by decide +kernel
theorem dX7_findFault_28 : decode cX7_findFault 28 = .ok (.bipush (-6), 2) := by decide +kernel
theorem dX7_findFault_30 : decode cX7_findFault 30 = .ok (.ireturn, 1) := by decide +kernel
theorem dX7_findFault_31 : decode cX7_findFault 31 = .ok (.aload_n 0, 1) := by decide +kernel
theorem dX7_findFault_32 : decode cX7_findFault 32 = .ok (.bipush 59, 2) := by decide +kernel
theorem dX7_findFault_34 : decode cX7_findFault 34 = .ok (.invokevirtual 180, 3) := by decide +kernel
theorem dX7_findFault_37 : decode cX7_findFault 37 = .ok (.ifCond .ne (-32), 3) := by decide +kernel
theorem dX7_findFault_40 : decode cX7_findFault 40 = .ok (.aload_n 0, 1) := by decide +kernel
theorem dX7_findFault_41 : decode cX7_findFault 41 = .ok (.getfield 171, 3) := by decide +kernel
theorem dX7_findFault_44 : decode cX7_findFault 44 = .ok (.ireturn, 1) := by decide +kernel
theorem dX7_fault_0 : decode cX7_fault 0 = .ok (.aload_n 0, 1) := by decide +kernel
theorem dX7_fault_1 : decode cX7_fault 1 = .ok (.invokevirtual 205, 3) := by decide +kernel
theorem dX7_fault_4 : decode cX7_fault 4 = .ok (.ireturn, 1) := by decide +kernel
theorem dX7_whyNotDone_0 : decode cX7_whyNotDone 0 = .ok (.aload_n 0, 1) := by decide +kernel
theorem dX7_whyNotDone_1 : decode cX7_whyNotDone 1 = .ok (.getfield 195, 3) := by decide +kernel
theorem dX7_whyNotDone_4 : decode cX7_whyNotDone 4 = .ok (.lookupswitch 107 #[(43, 61), (45, 71), (103, 90), (109, 52), (116, 81)], 52) := by decide +kernel
theorem dX7_whyNotDone_56 : decode cX7_whyNotDone 56 = .ok (.aload_n 0, 1) := by decide +kernel
theorem dX7_whyNotDone_57 : decode cX7_whyNotDone 57 = .ok (.aload_n 0, 1) := by decide +kernel
theorem dX7_whyNotDone_58 : decode cX7_whyNotDone 58 = .ok (.getfield 186, 3) := by decide +kernel
theorem dX7_whyNotDone_61 : decode cX7_whyNotDone 61 = .ok (.invokevirtual 113, 3) := by decide +kernel
theorem dX7_whyNotDone_64 : decode cX7_whyNotDone 64 = .ok (.ireturn, 1) := by decide +kernel
theorem dX7_whyNotDone_65 : decode cX7_whyNotDone 65 = .ok (.aload_n 0, 1) := by decide +kernel
theorem dX7_whyNotDone_66 : decode cX7_whyNotDone 66 = .ok (.aload_n 0, 1) := by decide +kernel
theorem dX7_whyNotDone_67 : decode cX7_whyNotDone 67 = .ok (.getfield 186, 3) := by decide +kernel
theorem dX7_whyNotDone_70 : decode cX7_whyNotDone 70 = .ok (.iconst 0, 1) := by decide +kernel
theorem dX7_whyNotDone_71 : decode cX7_whyNotDone 71 = .ok (.invokevirtual 126, 3) := by decide +kernel
theorem dX7_whyNotDone_74 : decode cX7_whyNotDone 74 = .ok (.ireturn, 1) := by decide +kernel
theorem dX7_whyNotDone_75 : decode cX7_whyNotDone 75 = .ok (.aload_n 0, 1) := by decide +kernel
theorem dX7_whyNotDone_76 : decode cX7_whyNotDone 76 = .ok (.aload_n 0, 1) := by decide +kernel
theorem dX7_whyNotDone_77 : decode cX7_whyNotDone 77 = .ok (.getfield 186, 3) := by decide +kernel
theorem dX7_whyNotDone_80 : decode cX7_whyNotDone 80 = .ok (.iconst 1, 1) := by decide +kernel
theorem dX7_whyNotDone_81 : decode cX7_whyNotDone 81 = .ok (.invokevirtual 126, 3) := by decide +kernel
theorem dX7_whyNotDone_84 : decode cX7_whyNotDone 84 = .ok (.ireturn, 1) := by decide +kernel
theorem dX7_whyNotDone_85 : decode cX7_whyNotDone 85 = .ok (.aload_n 0, 1) := by decide +kernel
theorem dX7_whyNotDone_86 : decode cX7_whyNotDone 86 = .ok (.aload_n 0, 1) := by decide +kernel
theorem dX7_whyNotDone_87 : decode cX7_whyNotDone 87 = .ok (.getfield 186, 3) := by decide +kernel
theorem dX7_whyNotDone_90 : decode cX7_whyNotDone 90 = .ok (.invokevirtual 150, 3) := by decide +kernel
theorem dX7_whyNotDone_93 : decode cX7_whyNotDone 93 = .ok (.ireturn, 1) := by decide +kernel
theorem dX7_whyNotDone_94 : decode cX7_whyNotDone 94 = .ok (.aload_n 0, 1) := by decide +kernel
theorem dX7_whyNotDone_95 : decode cX7_whyNotDone 95 = .ok (.aload_n 0, 1) := by decide +kernel
theorem dX7_whyNotDone_96 : decode cX7_whyNotDone 96 = .ok (.getfield 186, 3) := by decide +kernel
theorem dX7_whyNotDone_99 : decode cX7_whyNotDone 99 = .ok (.aload_n 0, 1) := by decide +kernel
theorem dX7_whyNotDone_100 : decode cX7_whyNotDone 100 = .ok (.getfield 189, 3) := by decide +kernel
theorem dX7_whyNotDone_103 : decode cX7_whyNotDone 103 = .ok (.aload_n 0, 1) := by decide +kernel
theorem dX7_whyNotDone_104 : decode cX7_whyNotDone 104 = .ok (.getfield 192, 3) := by decide +kernel
theorem dX7_whyNotDone_107 : decode cX7_whyNotDone 107 = .ok (.invokevirtual 136, 3) := by decide +kernel
theorem dX7_whyNotDone_110 : decode cX7_whyNotDone 110 = .ok (.ireturn, 1) := by decide +kernel
theorem dX7_whyNotDone_111 : decode cX7_whyNotDone 111 = .ok (.iconst 0, 1) := by decide +kernel
theorem dX7_whyNotDone_112 : decode cX7_whyNotDone 112 = .ok (.ireturn, 1) := by decide +kernel
theorem dX7_does_0 : decode cX7_does 0 = .ok (.aload_n 0, 1) := by decide +kernel
theorem dX7_does_1 : decode cX7_does 1 = .ok (.getfield 195, 3) := by decide +kernel
theorem dX7_does_4 : decode cX7_does 4 = .ok (.lookupswitch 108 #[(43, 64), (45, 64), (103, 88), (109, 52), (116, 76)], 52) := by decide +kernel
theorem dX7_does_56 : decode cX7_does 56 = .ok (.aload_n 0, 1) := by decide +kernel
theorem dX7_does_57 : decode cX7_does 57 = .ok (.aload_n 0, 1) := by decide +kernel
theorem dX7_does_58 : decode cX7_does 58 = .ok (.getfield 186, 3) := by decide +kernel
theorem dX7_does_61 : decode cX7_does 61 = .ok (.invokevirtual 116, 3) := by decide +kernel
theorem dX7_does_64 : decode cX7_does 64 = .ok (.pop, 1) := by decide +kernel
theorem dX7_does_65 : decode cX7_does 65 = .ok (.goto 57, 3) := by decide +kernel
theorem dX7_does_68 : decode cX7_does 68 = .ok (.aload_n 0, 1) := by decide +kernel
theorem dX7_does_69 : decode cX7_does 69 = .ok (.aload_n 0, 1) := by decide +kernel
theorem dX7_does_70 : decode cX7_does 70 = .ok (.getfield 186, 3) := by decide +kernel
theorem dX7_does_73 : decode cX7_does 73 = .ok (.invokevirtual 130, 3) := by decide +kernel
theorem dX7_does_76 : decode cX7_does 76 = .ok (.pop, 1) := by decide +kernel
theorem dX7_does_77 : decode cX7_does 77 = .ok (.goto 45, 3) := by decide +kernel
theorem dX7_does_80 : decode cX7_does 80 = .ok (.aload_n 0, 1) := by decide +kernel
theorem dX7_does_81 : decode cX7_does 81 = .ok (.aload_n 0, 1) := by decide +kernel
theorem dX7_does_82 : decode cX7_does 82 = .ok (.getfield 186, 3) := by decide +kernel
theorem dX7_does_85 : decode cX7_does 85 = .ok (.invokevirtual 153, 3) := by decide +kernel
theorem dX7_does_88 : decode cX7_does 88 = .ok (.pop, 1) := by decide +kernel
theorem dX7_does_89 : decode cX7_does 89 = .ok (.goto 33, 3) := by decide +kernel
theorem dX7_does_92 : decode cX7_does 92 = .ok (.aload_n 0, 1) := by decide +kernel
theorem dX7_does_93 : decode cX7_does 93 = .ok (.aload_n 0, 1) := by decide +kernel
theorem dX7_does_94 : decode cX7_does 94 = .ok (.getfield 186, 3) := by decide +kernel
theorem dX7_does_97 : decode cX7_does 97 = .ok (.aload_n 0, 1) := by decide +kernel
theorem dX7_does_98 : decode cX7_does 98 = .ok (.getfield 189, 3) := by decide +kernel
theorem dX7_does_101 : decode cX7_does 101 = .ok (.aload_n 0, 1) := by decide +kernel
theorem dX7_does_102 : decode cX7_does 102 = .ok (.getfield 192, 3) := by decide +kernel
theorem dX7_does_105 : decode cX7_does 105 = .ok (.invokevirtual 140, 3) := by decide +kernel
theorem dX7_does_108 : decode cX7_does 108 = .ok (.pop, 1) := by decide +kernel
theorem dX7_does_109 : decode cX7_does 109 = .ok (.goto 13, 3) := by decide +kernel
theorem dX7_does_112 : decode cX7_does 112 = .ok (.aload_n 0, 1) := by decide +kernel
theorem dX7_does_113 : decode cX7_does 113 = .ok (.iconst 0, 1) := by decide +kernel
theorem dX7_does_114 : decode cX7_does 114 = .ok (.aload_n 0, 1) := by decide +kernel
theorem dX7_does_115 : decode cX7_does 115 = .ok (.getfield 186, 3) := by decide +kernel
theorem dX7_does_118 : decode cX7_does 118 = .ok (.invokevirtual 110, 3) := by decide +kernel
theorem dX7_does_121 : decode cX7_does 121 = .ok (.pop, 1) := by decide +kernel
theorem dX7_does_122 : decode cX7_does 122 = .ok (.return_, 1) := by decide +kernel
theorem dX7_carryOut_0 : decode cX7_carryOut 0 = .ok (.aload_n 0, 1) := by decide +kernel
theorem dX7_carryOut_1 : decode cX7_carryOut 1 = .ok (.invokevirtual 205, 3) := by decide +kernel
theorem dX7_carryOut_4 : decode cX7_carryOut 4 = .ok (.bipush (-6), 2) := by decide +kernel
theorem dX7_carryOut_6 : decode cX7_carryOut 6 = .ok (.if_icmp .eq 6, 3) := by decide +kernel
theorem dX7_carryOut_9 : decode cX7_carryOut 9 = .ok (.bipush (-3), 2) := by decide +kernel
theorem dX7_carryOut_11 : decode cX7_carryOut 11 = .ok (.ireturn, 1) := by decide +kernel
theorem dX7_carryOut_12 : decode cX7_carryOut 12 = .ok (.aload_n 0, 1) := by decide +kernel
theorem dX7_carryOut_13 : decode cX7_carryOut 13 = .ok (.invokevirtual 107, 3) := by decide +kernel
theorem dX7_carryOut_16 : decode cX7_carryOut 16 = .ok (.iconst 0, 1) := by decide +kernel
theorem dX7_carryOut_17 : decode cX7_carryOut 17 = .ok (.istore_n 1, 1) := by decide +kernel
theorem dX7_carryOut_18 : decode cX7_carryOut 18 = .ok (.aload_n 0, 1) := by decide +kernel
theorem dX7_carryOut_19 : decode cX7_carryOut 19 = .ok (.iconst 0, 1) := by decide +kernel
theorem dX7_carryOut_20 : decode cX7_carryOut 20 = .ok (.putfield 171, 3) := by decide +kernel
theorem dX7_carryOut_23 : decode cX7_carryOut 23 = .ok (.iconst 1, 1) := by decide +kernel
theorem dX7_carryOut_24 : decode cX7_carryOut 24 = .ok (.istore_n 2, 1) := by decide +kernel
theorem dX7_carryOut_25 : decode cX7_carryOut 25 = .ok (.iload_n 2, 1) := by decide +kernel
theorem dX7_carryOut_26 : decode cX7_carryOut 26 = .ok (.ifCond .eq 53, 3) := by decide +kernel
theorem dX7_carryOut_29 : decode cX7_carryOut 29 = .ok (.aload_n 0, 1) := by decide +kernel
theorem dX7_carryOut_30 : decode cX7_carryOut 30 = .ok (.getfield 171, 3) := by decide +kernel
theorem dX7_carryOut_33 : decode cX7_carryOut 33 = .ok (.aload_n 0, 1) := by decide +kernel
theorem dX7_carryOut_34 : decode cX7_carryOut 34 = .ok (.getfield 163, 3) := by decide +kernel
theorem dX7_carryOut_37 : decode cX7_carryOut 37 = .ok (.if_icmp .ge 42, 3) := by decide +kernel
theorem dX7_carryOut_40 : decode cX7_carryOut 40 = .ok (.aload_n 0, 1) := by decide +kernel
theorem dX7_carryOut_41 : decode cX7_carryOut 41 = .ok (.invokevirtual 202, 3) := by decide +kernel
theorem dX7_carryOut_44 : decode cX7_carryOut 44 = .ok (.pop, 1) := by decide +kernel
theorem dX7_carryOut_45 : decode cX7_carryOut 45 = .ok (.aload_n 0, 1) := by decide +kernel
theorem dX7_carryOut_46 : decode cX7_carryOut 46 = .ok (.bipush 59, 2) := by decide +kernel
theorem dX7_carryOut_48 : decode cX7_carryOut 48 = .ok (.invokevirtual 180, 3) := by decide +kernel
theorem dX7_carryOut_51 : decode cX7_carryOut 51 = .ok (.pop, 1) := by decide +kernel
theorem dX7_carryOut_52 : decode cX7_carryOut 52 = .ok (.aload_n 0, 1) := by decide +kernel
theorem dX7_carryOut_53 : decode cX7_carryOut 53 = .ok (.invokevirtual 208, 3) := by decide +kernel
theorem dX7_carryOut_56 : decode cX7_carryOut 56 = .ok (.ifCond .ne 7, 3) := by decide +kernel
theorem dX7_carryOut_59 : decode cX7_carryOut 59 = .ok (.iconst 1, 1) := by decide +kernel
theorem dX7_carryOut_60 : decode cX7_carryOut 60 = .ok (.goto 4, 3) := by decide +kernel
theorem dX7_carryOut_63 : decode cX7_carryOut 63 = .ok (.iconst 0, 1) := by decide +kernel
theorem dX7_carryOut_64 : decode cX7_carryOut 64 = .ok (.istore_n 2, 1) := by decide +kernel
theorem dX7_carryOut_65 : decode cX7_carryOut 65 = .ok (.iload_n 2, 1) := by decide +kernel
theorem dX7_carryOut_66 : decode cX7_carryOut 66 = .ok (.ifCond .eq (-41), 3) := by decide +kernel
theorem dX7_carryOut_69 : decode cX7_carryOut 69 = .ok (.aload_n 0, 1) := by decide +kernel
theorem dX7_carryOut_70 : decode cX7_carryOut 70 = .ok (.invokevirtual 211, 3) := by decide +kernel
theorem dX7_carryOut_73 : decode cX7_carryOut 73 = .ok (.iinc 1 1, 3) := by decide +kernel
theorem dX7_carryOut_76 : decode cX7_carryOut 76 = .ok (.goto (-51), 3) := by decide +kernel
theorem dX7_carryOut_79 : decode cX7_carryOut 79 = .ok (.aload_n 0, 1) := by decide +kernel
theorem dX7_carryOut_80 : decode cX7_carryOut 80 = .ok (.iconst 0, 1) := by decide +kernel
theorem dX7_carryOut_81 : decode cX7_carryOut 81 = .ok (.putfield 163, 3) := by decide +kernel
theorem dX7_carryOut_84 : decode cX7_carryOut 84 = .ok (.iload_n 1, 1) := by decide +kernel
theorem dX7_carryOut_85 : decode cX7_carryOut 85 = .ok (.ireturn, 1) := by decide +kernel
theorem dX7_undo_0 : decode cX7_undo 0 = .ok (.aload_n 0, 1) := by decide +kernel
theorem dX7_undo_1 : decode cX7_undo 1 = .ok (.getfield 31, 3) := by decide +kernel
theorem dX7_undo_4 : decode cX7_undo 4 = .ok (.ifCond .ne 6, 3) := by decide +kernel
theorem dX7_undo_7 : decode cX7_undo 7 = .ok (.bipush (-5), 2) := by decide +kernel
theorem dX7_undo_9 : decode cX7_undo 9 = .ok (.ireturn, 1) := by decide +kernel
theorem dX7_undo_10 : decode cX7_undo 10 = .ok (.aload_n 0, 1) := by decide +kernel
theorem dX7_undo_11 : decode cX7_undo 11 = .ok (.dup, 1) := by decide +kernel
theorem dX7_undo_12 : decode cX7_undo 12 = .ok (.getfield 31, 3) := by decide +kernel
theorem dX7_undo_15 : decode cX7_undo 15 = .ok (.iconst 1, 1) := by decide +kernel
theorem dX7_undo_16 : decode cX7_undo 16 = .ok (.isub, 1) := by decide +kernel
theorem dX7_undo_17 : decode cX7_undo 17 = .ok (.putfield 31, 3) := by decide +kernel
theorem dX7_undo_20 : decode cX7_undo 20 = .ok (.aload_n 0, 1) := by decide +kernel
theorem dX7_undo_21 : decode cX7_undo 21 = .ok (.getfield 13, 3) := by decide +kernel
theorem dX7_undo_24 : decode cX7_undo 24 = .ok (.aload_n 0, 1) := by decide +kernel
theorem dX7_undo_25 : decode cX7_undo 25 = .ok (.getfield 31, 3) := by decide +kernel
theorem dX7_undo_28 : decode cX7_undo 28 = .ok (.sipush 236, 3) := by decide +kernel
theorem dX7_undo_31 : decode cX7_undo 31 = .ok (.imul, 1) := by decide +kernel
theorem dX7_undo_32 : decode cX7_undo 32 = .ok (.aload_n 0, 1) := by decide +kernel
theorem dX7_undo_33 : decode cX7_undo 33 = .ok (.getfield 7, 3) := by decide +kernel
theorem dX7_undo_36 : decode cX7_undo 36 = .ok (.iconst 0, 1) := by decide +kernel
theorem dX7_undo_37 : decode cX7_undo 37 = .ok (.invokestatic 35, 3) := by decide +kernel
theorem dX7_undo_40 : decode cX7_undo 40 = .ok (.aload_n 0, 1) := by decide +kernel
theorem dX7_undo_41 : decode cX7_undo 41 = .ok (.getfield 31, 3) := by decide +kernel
theorem dX7_undo_44 : decode cX7_undo 44 = .ok (.ireturn, 1) := by decide +kernel
theorem dX7_save_0 : decode cX7_save 0 = .ok (.iload_n 1, 1) := by decide +kernel
theorem dX7_save_1 : decode cX7_save 1 = .ok (.iconst 0, 1) := by decide +kernel
theorem dX7_save_2 : decode cX7_save 2 = .ok (.iconst 1, 1) := by decide +kernel
theorem dX7_save_3 : decode cX7_save 3 = .ok (.invokestatic 39, 3) := by decide +kernel
theorem dX7_save_6 : decode cX7_save 6 = .ok (.ifCond .ne 6, 3) := by decide +kernel
theorem dX7_save_9 : decode cX7_save 9 = .ok (.bipush (-2), 2) := by decide +kernel
theorem dX7_save_11 : decode cX7_save 11 = .ok (.ireturn, 1) := by decide +kernel
theorem dX7_save_12 : decode cX7_save 12 = .ok (.aload_n 0, 1) := by decide +kernel
theorem dX7_save_13 : decode cX7_save 13 = .ok (.getfield 7, 3) := by decide +kernel
theorem dX7_save_16 : decode cX7_save 16 = .ok (.iconst 0, 1) := by decide +kernel
theorem dX7_save_17 : decode cX7_save 17 = .ok (.aload_n 0, 1) := by decide +kernel
theorem dX7_save_18 : decode cX7_save 18 = .ok (.getfield 16, 3) := by decide +kernel
theorem dX7_save_21 : decode cX7_save 21 = .ok (.sipush 236, 3) := by decide +kernel
theorem dX7_save_24 : decode cX7_save 24 = .ok (.iload_n 1, 1) := by decide +kernel
theorem dX7_save_25 : decode cX7_save 25 = .ok (.imul, 1) := by decide +kernel
theorem dX7_save_26 : decode cX7_save 26 = .ok (.invokestatic 35, 3) := by decide +kernel
theorem dX7_save_29 : decode cX7_save 29 = .ok (.aload_n 0, 1) := by decide +kernel
theorem dX7_save_30 : decode cX7_save 30 = .ok (.getfield 19, 3) := by decide +kernel
theorem dX7_save_33 : decode cX7_save 33 = .ok (.iload_n 1, 1) := by decide +kernel
theorem dX7_save_34 : decode cX7_save 34 = .ok (.iconst 1, 1) := by decide +kernel
theorem dX7_save_35 : decode cX7_save 35 = .ok (.iastore, 1) := by decide +kernel
theorem dX7_save_36 : decode cX7_save 36 = .ok (.aload_n 0, 1) := by decide +kernel
theorem dX7_save_37 : decode cX7_save 37 = .ok (.getfield 7, 3) := by decide +kernel
theorem dX7_save_40 : decode cX7_save 40 = .ok (.iconst 3, 1) := by decide +kernel
theorem dX7_save_41 : decode cX7_save 41 = .ok (.iaload, 1) := by decide +kernel
theorem dX7_save_42 : decode cX7_save 42 = .ok (.ireturn, 1) := by decide +kernel
theorem dX7_restore_0 : decode cX7_restore 0 = .ok (.iload_n 1, 1) := by decide +kernel
theorem dX7_restore_1 : decode cX7_restore 1 = .ok (.iconst 0, 1) := by decide +kernel
theorem dX7_restore_2 : decode cX7_restore 2 = .ok (.iconst 1, 1) := by decide +kernel
theorem dX7_restore_3 : decode cX7_restore 3 = .ok (.invokestatic 39, 3) := by decide +kernel
theorem dX7_restore_6 : decode cX7_restore 6 = .ok (.ifCond .ne 6, 3) := by decide +kernel
theorem dX7_restore_9 : decode cX7_restore 9 = .ok (.bipush (-2), 2) := by decide +kernel
theorem dX7_restore_11 : decode cX7_restore 11 = .ok (.ireturn, 1) := by decide +kernel
theorem dX7_restore_12 : decode cX7_restore 12 = .ok (.aload_n 0, 1) := by decide +kernel
theorem dX7_restore_13 : decode cX7_restore 13 = .ok (.getfield 19, 3) := by decide +kernel
theorem dX7_restore_16 : decode cX7_restore 16 = .ok (.iload_n 1, 1) := by decide +kernel
theorem dX7_restore_17 : decode cX7_restore 17 = .ok (.iaload, 1) := by decide +kernel
theorem dX7_restore_18 : decode cX7_restore 18 = .ok (.ifCond .ne 6, 3) := by decide +kernel
theorem dX7_restore_21 : decode cX7_restore 21 = .ok (.bipush (-5), 2) := by decide +kernel
theorem dX7_restore_23 : decode cX7_restore 23 = .ok (.ireturn, 1) := by decide +kernel
theorem dX7_restore_24 : decode cX7_restore 24 = .ok (.aload_n 0, 1) := by decide +kernel
theorem dX7_restore_25 : decode cX7_restore 25 = .ok (.invokevirtual 107, 3) := by decide +kernel
theorem dX7_restore_28 : decode cX7_restore 28 = .ok (.aload_n 0, 1) := by decide +kernel
theorem dX7_restore_29 : decode cX7_restore 29 = .ok (.getfield 16, 3) := by decide +kernel
theorem dX7_restore_32 : decode cX7_restore 32 = .ok (.sipush 236, 3) := by decide +kernel
theorem dX7_restore_35 : decode cX7_restore 35 = .ok (.iload_n 1, 1) := by decide +kernel
theorem dX7_restore_36 : decode cX7_restore 36 = .ok (.imul, 1) := by decide +kernel
theorem dX7_restore_37 : decode cX7_restore 37 = .ok (.aload_n 0, 1) := by decide +kernel
theorem dX7_restore_38 : decode cX7_restore 38 = .ok (.getfield 7, 3) := by decide +kernel
theorem dX7_restore_41 : decode cX7_restore 41 = .ok (.iconst 0, 1) := by decide +kernel
theorem dX7_restore_42 : decode cX7_restore 42 = .ok (.invokestatic 35, 3) := by decide +kernel
theorem dX7_restore_45 : decode cX7_restore 45 = .ok (.aload_n 0, 1) := by decide +kernel
theorem dX7_restore_46 : decode cX7_restore 46 = .ok (.getfield 7, 3) := by decide +kernel
theorem dX7_restore_49 : decode cX7_restore 49 = .ok (.iconst 3, 1) := by decide +kernel
theorem dX7_restore_50 : decode cX7_restore 50 = .ok (.iaload, 1) := by decide +kernel
theorem dX7_restore_51 : decode cX7_restore 51 = .ok (.ireturn, 1) := by decide +kernel
end
section
theorem hd_J6_bitCount_0f7a4 : yJ6_bitCount_0f7a4.cls = RJ6 ∧ yJ6_bitCount_0f7a4.cls ≠ "java/lang/invoke/MethodHandle" ∧ yJ6_bitCount_0f7a4.cls ≠ "java/lang/invoke/VarHandle" ∧ (parseMethodDescriptor yJ6_bitCount_0f7a4.desc).map (fun d => d.parameters.length) = some 1 := by decide +kernel
theorem hs_J6_bitCount_0f7a4 : yJ6_bitCount_0f7a4.cls ≠ "java/lang/invoke/MethodHandle" ∧ yJ6_bitCount_0f7a4.cls ≠ "java/lang/invoke/VarHandle" ∧ (parseMethodDescriptor yJ6_bitCount_0f7a4.desc).map (fun d => d.parameters.length) = some 1 := hd_J6_bitCount_0f7a4.2
theorem gn_J6_bitCount_0f7a4 : GoodIn wsL_law (Cond.code yJ6_bitCount_0f7a4 cJ6_bitCount_0f7a4 1 (some .int) :: wsL_law) := w0_C wq_23_8
theorem hd_J7_copyOf_59c91 : yJ7_copyOf_59c91.cls = RJ7 ∧ yJ7_copyOf_59c91.cls ≠ "java/lang/invoke/MethodHandle" ∧ yJ7_copyOf_59c91.cls ≠ "java/lang/invoke/VarHandle" ∧ (parseMethodDescriptor yJ7_copyOf_59c91.desc).map (fun d => d.parameters.length) = some 2 := by decide +kernel
theorem hs_J7_copyOf_59c91 : yJ7_copyOf_59c91.cls ≠ "java/lang/invoke/MethodHandle" ∧ yJ7_copyOf_59c91.cls ≠ "java/lang/invoke/VarHandle" ∧ (parseMethodDescriptor yJ7_copyOf_59c91.desc).map (fun d => d.parameters.length) = some 2 := hd_J7_copyOf_59c91.2
theorem gn_J7_copyOf_59c91 : GoodIn wsL_law (Cond.code yJ7_copyOf_59c91 cJ7_copyOf_59c91 3 (some (.array .int)) :: wsL_law) := w0_C wq_18_8
theorem hd_X0_init : yX0_init.cls = RX0 ∧ yX0_init.cls ≠ "java/lang/invoke/MethodHandle" ∧ yX0_init.cls ≠ "java/lang/invoke/VarHandle" ∧ (parseMethodDescriptor yX0_init.desc).map (fun d => d.parameters.length) = some 2 := by decide +kernel
theorem hs_X0_init : yX0_init.cls ≠ "java/lang/invoke/MethodHandle" ∧ yX0_init.cls ≠ "java/lang/invoke/VarHandle" ∧ (parseMethodDescriptor yX0_init.desc).map (fun d => d.parameters.length) = some 2 := hd_X0_init.2
theorem gn_X0_init : GoodIn wsL_law (Cond.code yX0_init cX0_init 3 none :: wsL_law) := w0_C wq_17_21
theorem hd_X1_begin : yX1_begin.cls = RX1 ∧ yX1_begin.cls ≠ "java/lang/invoke/MethodHandle" ∧ yX1_begin.cls ≠ "java/lang/invoke/VarHandle" ∧ (parseMethodDescriptor yX1_begin.desc).map (fun d => d.parameters.length) = some 3 := by decide +kernel
theorem hs_X1_begin : yX1_begin.cls ≠ "java/lang/invoke/MethodHandle" ∧ yX1_begin.cls ≠ "java/lang/invoke/VarHandle" ∧ (parseMethodDescriptor yX1_begin.desc).map (fun d => d.parameters.length) = some 3 := hd_X1_begin.2
theorem gn_X1_begin : GoodIn wsL_law (Cond.code yX1_begin cX1_begin 4 none :: wsL_law) := w0_C wq_14_14
theorem hd_X1_copyFrom : yX1_copyFrom.cls = RX1 ∧ yX1_copyFrom.cls ≠ "java/lang/invoke/MethodHandle" ∧ yX1_copyFrom.cls ≠ "java/lang/invoke/VarHandle" ∧ (parseMethodDescriptor yX1_copyFrom.desc).map (fun d => d.parameters.length) = some 1 := by decide +kernel
theorem hs_X1_copyFrom : yX1_copyFrom.cls ≠ "java/lang/invoke/MethodHandle" ∧ yX1_copyFrom.cls ≠ "java/lang/invoke/VarHandle" ∧ (parseMethodDescriptor yX1_copyFrom.desc).map (fun d => d.parameters.length) = some 1 := hd_X1_copyFrom.2
theorem gn_X1_copyFrom : GoodIn wsL_law (Cond.code yX1_copyFrom cX1_copyFrom 2 none :: wsL_law) := w0_C wq_5_9
theorem hd_X1_follow : yX1_follow.cls = RX1 ∧ yX1_follow.cls ≠ "java/lang/invoke/MethodHandle" ∧ yX1_follow.cls ≠ "java/lang/invoke/VarHandle" ∧ (parseMethodDescriptor yX1_follow.desc).map (fun d => d.parameters.length) = some 1 := by decide +kernel
theorem hs_X1_follow : yX1_follow.cls ≠ "java/lang/invoke/MethodHandle" ∧ yX1_follow.cls ≠ "java/lang/invoke/VarHandle" ∧ (parseMethodDescriptor yX1_follow.desc).map (fun d => d.parameters.length) = some 1 := hd_X1_follow.2
theorem gn_X1_follow : GoodIn wsL_law (Cond.code yX1_follow cX1_follow 4 none :: wsL_law) := w0_C wq_7_3
theorem hd_X1_init : yX1_init.cls = RX1 ∧ yX1_init.cls ≠ "java/lang/invoke/MethodHandle" ∧ yX1_init.cls ≠ "java/lang/invoke/VarHandle" ∧ (parseMethodDescriptor yX1_init.desc).map (fun d => d.parameters.length) = some 0 := by decide +kernel
theorem hs_X1_init : yX1_init.cls ≠ "java/lang/invoke/MethodHandle" ∧ yX1_init.cls ≠ "java/lang/invoke/VarHandle" ∧ (parseMethodDescriptor yX1_init.desc).map (fun d => d.parameters.length) = some 0 := hd_X1_init.2
theorem gn_X1_init : GoodIn wsL_law (Cond.code yX1_init cX1_init 1 none :: wsL_law) := w0_C wq_3_0
theorem hd_X1_shown : yX1_shown.cls = RX1 ∧ yX1_shown.cls ≠ "java/lang/invoke/MethodHandle" ∧ yX1_shown.cls ≠ "java/lang/invoke/VarHandle" ∧ (parseMethodDescriptor yX1_shown.desc).map (fun d => d.parameters.length) = some 0 := by decide +kernel
theorem hs_X1_shown : yX1_shown.cls ≠ "java/lang/invoke/MethodHandle" ∧ yX1_shown.cls ≠ "java/lang/invoke/VarHandle" ∧ (parseMethodDescriptor yX1_shown.desc).map (fun d => d.parameters.length) = some 0 := hd_X1_shown.2
theorem gn_X1_shown : GoodIn wsL_law (Cond.code yX1_shown cX1_shown 1 (some .int) :: wsL_law) := w0_C wq_17_18
theorem hd_X1_tell : yX1_tell.cls = RX1 ∧ yX1_tell.cls ≠ "java/lang/invoke/MethodHandle" ∧ yX1_tell.cls ≠ "java/lang/invoke/VarHandle" ∧ (parseMethodDescriptor yX1_tell.desc).map (fun d => d.parameters.length) = some 1 := by decide +kernel
theorem hs_X1_tell : yX1_tell.cls ≠ "java/lang/invoke/MethodHandle" ∧ yX1_tell.cls ≠ "java/lang/invoke/VarHandle" ∧ (parseMethodDescriptor yX1_tell.desc).map (fun d => d.parameters.length) = some 1 := hd_X1_tell.2
theorem gn_X1_tell : GoodIn wsL_law (Cond.code yX1_tell cX1_tell 2 (some .int) :: wsL_law) := w0_C wq_20_14
theorem hd_X2_init : yX2_init.cls = RX2 ∧ yX2_init.cls ≠ "java/lang/invoke/MethodHandle" ∧ yX2_init.cls ≠ "java/lang/invoke/VarHandle" ∧ (parseMethodDescriptor yX2_init.desc).map (fun d => d.parameters.length) = some 0 := by decide +kernel
theorem hs_X2_init : yX2_init.cls ≠ "java/lang/invoke/MethodHandle" ∧ yX2_init.cls ≠ "java/lang/invoke/VarHandle" ∧ (parseMethodDescriptor yX2_init.desc).map (fun d => d.parameters.length) = some 0 := hd_X2_init.2
theorem gn_X2_init : GoodIn wsL_law (Cond.code yX2_init cX2_init 2 none :: wsL_law) := w0_C wq_3_4
theorem hd_X2_remember : yX2_remember.cls = RX2 ∧ yX2_remember.cls ≠ "java/lang/invoke/MethodHandle" ∧ yX2_remember.cls ≠ "java/lang/invoke/VarHandle" ∧ (parseMethodDescriptor yX2_remember.desc).map (fun d => d.parameters.length) = some 1 := by decide +kernel
theorem hs_X2_remember : yX2_remember.cls ≠ "java/lang/invoke/MethodHandle" ∧ yX2_remember.cls ≠ "java/lang/invoke/VarHandle" ∧ (parseMethodDescriptor yX2_remember.desc).map (fun d => d.parameters.length) = some 1 := hd_X2_remember.2
theorem gn_X2_remember : GoodIn wsL_law (Cond.code yX2_remember cX2_remember 2 none :: wsL_law) := w0_C wq_4_17
theorem hd_X2_settle : yX2_settle.cls = RX2 ∧ yX2_settle.cls ≠ "java/lang/invoke/MethodHandle" ∧ yX2_settle.cls ≠ "java/lang/invoke/VarHandle" ∧ (parseMethodDescriptor yX2_settle.desc).map (fun d => d.parameters.length) = some 1 := by decide +kernel
theorem hs_X2_settle : yX2_settle.cls ≠ "java/lang/invoke/MethodHandle" ∧ yX2_settle.cls ≠ "java/lang/invoke/VarHandle" ∧ (parseMethodDescriptor yX2_settle.desc).map (fun d => d.parameters.length) = some 1 := hd_X2_settle.2
theorem gn_X2_settle : GoodIn wsL_law (Cond.code yX2_settle cX2_settle 2 (some .int) :: wsL_law) := w0_C wq_7_11
theorem hd_X2_stepBack : yX2_stepBack.cls = RX2 ∧ yX2_stepBack.cls ≠ "java/lang/invoke/MethodHandle" ∧ yX2_stepBack.cls ≠ "java/lang/invoke/VarHandle" ∧ (parseMethodDescriptor yX2_stepBack.desc).map (fun d => d.parameters.length) = some 1 := by decide +kernel
theorem hs_X2_stepBack : yX2_stepBack.cls ≠ "java/lang/invoke/MethodHandle" ∧ yX2_stepBack.cls ≠ "java/lang/invoke/VarHandle" ∧ (parseMethodDescriptor yX2_stepBack.desc).map (fun d => d.parameters.length) = some 1 := hd_X2_stepBack.2
theorem gn_X2_stepBack : GoodIn wsL_law (Cond.code yX2_stepBack cX2_stepBack 2 (some .int) :: wsL_law) := w0_C wq_31_5
theorem hd_X3_append : yX3_append.cls = RX3 ∧ yX3_append.cls ≠ "java/lang/invoke/MethodHandle" ∧ yX3_append.cls ≠ "java/lang/invoke/VarHandle" ∧ (parseMethodDescriptor yX3_append.desc).map (fun d => d.parameters.length) = some 1 := by decide +kernel
theorem hs_X3_append : yX3_append.cls ≠ "java/lang/invoke/MethodHandle" ∧ yX3_append.cls ≠ "java/lang/invoke/VarHandle" ∧ (parseMethodDescriptor yX3_append.desc).map (fun d => d.parameters.length) = some 1 := hd_X3_append.2
theorem gn_X3_append : GoodIn wsL_law (Cond.code yX3_append cX3_append 5 (some .int) :: wsL_law) := w0_C wq_25_15
theorem hd_X3_clear : yX3_clear.cls = RX3 ∧ yX3_clear.cls ≠ "java/lang/invoke/MethodHandle" ∧ yX3_clear.cls ≠ "java/lang/invoke/VarHandle" ∧ (parseMethodDescriptor yX3_clear.desc).map (fun d => d.parameters.length) = some 0 := by decide +kernel
theorem hs_X3_clear : yX3_clear.cls ≠ "java/lang/invoke/MethodHandle" ∧ yX3_clear.cls ≠ "java/lang/invoke/VarHandle" ∧ (parseMethodDescriptor yX3_clear.desc).map (fun d => d.parameters.length) = some 0 := hd_X3_clear.2
theorem gn_X3_clear : GoodIn wsL_law (Cond.code yX3_clear cX3_clear 2 (some .int) :: wsL_law) := w0_C wq_26_11
theorem hd_X3_findFault : yX3_findFault.cls = RX3 ∧ yX3_findFault.cls ≠ "java/lang/invoke/MethodHandle" ∧ yX3_findFault.cls ≠ "java/lang/invoke/VarHandle" ∧ (parseMethodDescriptor yX3_findFault.desc).map (fun d => d.parameters.length) = some 0 := by decide +kernel
theorem hs_X3_findFault : yX3_findFault.cls ≠ "java/lang/invoke/MethodHandle" ∧ yX3_findFault.cls ≠ "java/lang/invoke/VarHandle" ∧ (parseMethodDescriptor yX3_findFault.desc).map (fun d => d.parameters.length) = some 0 := hd_X3_findFault.2
theorem gn_X3_findFault : GoodIn wsL_law (Cond.code yX3_findFault cX3_findFault 3 (some .int) :: wsL_law) := w0_C wq_26_23
theorem hd_X3_howMany : yX3_howMany.cls = RX3 ∧ yX3_howMany.cls ≠ "java/lang/invoke/MethodHandle" ∧ yX3_howMany.cls ≠ "java/lang/invoke/VarHandle" ∧ (parseMethodDescriptor yX3_howMany.desc).map (fun d => d.parameters.length) = some 1 := by decide +kernel
theorem hs_X3_howMany : yX3_howMany.cls ≠ "java/lang/invoke/MethodHandle" ∧ yX3_howMany.cls ≠ "java/lang/invoke/VarHandle" ∧ (parseMethodDescriptor yX3_howMany.desc).map (fun d => d.parameters.length) = some 1 := hd_X3_howMany.2
theorem gn_X3_howMany : GoodIn wsL_law (Cond.code yX3_howMany cX3_howMany 5 (some .int) :: wsL_law) := w0_C wq_25_20
theorem hd_X3_init : yX3_init.cls = RX3 ∧ yX3_init.cls ≠ "java/lang/invoke/MethodHandle" ∧ yX3_init.cls ≠ "java/lang/invoke/VarHandle" ∧ (parseMethodDescriptor yX3_init.desc).map (fun d => d.parameters.length) = some 0 := by decide +kernel
theorem hs_X3_init : yX3_init.cls ≠ "java/lang/invoke/MethodHandle" ∧ yX3_init.cls ≠ "java/lang/invoke/VarHandle" ∧ (parseMethodDescriptor yX3_init.desc).map (fun d => d.parameters.length) = some 0 := hd_X3_init.2
theorem gn_X3_init : GoodIn wsL_law (Cond.code yX3_init cX3_init 1 none :: wsL_law) := w0_C wq_3_18
theorem hd_X3_isDigit : yX3_isDigit.cls = RX3 ∧ yX3_isDigit.cls ≠ "java/lang/invoke/MethodHandle" ∧ yX3_isDigit.cls ≠ "java/lang/invoke/VarHandle" ∧ (parseMethodDescriptor yX3_isDigit.desc).map (fun d => d.parameters.length) = some 1 := by decide +kernel
theorem hs_X3_isDigit : yX3_isDigit.cls ≠ "java/lang/invoke/MethodHandle" ∧ yX3_isDigit.cls ≠ "java/lang/invoke/VarHandle" ∧ (parseMethodDescriptor yX3_isDigit.desc).map (fun d => d.parameters.length) = some 1 := hd_X3_isDigit.2
theorem gn_X3_isDigit : GoodIn wsL_law (Cond.code yX3_isDigit cX3_isDigit 1 (some .boolean) :: wsL_law) := w0_C wq_28_0
theorem hd_X3_nextOrder : yX3_nextOrder.cls = RX3 ∧ yX3_nextOrder.cls ≠ "java/lang/invoke/MethodHandle" ∧ yX3_nextOrder.cls ≠ "java/lang/invoke/VarHandle" ∧ (parseMethodDescriptor yX3_nextOrder.desc).map (fun d => d.parameters.length) = some 0 := by decide +kernel
theorem hs_X3_nextOrder : yX3_nextOrder.cls ≠ "java/lang/invoke/MethodHandle" ∧ yX3_nextOrder.cls ≠ "java/lang/invoke/VarHandle" ∧ (parseMethodDescriptor yX3_nextOrder.desc).map (fun d => d.parameters.length) = some 0 := hd_X3_nextOrder.2
theorem gn_X3_nextOrder : GoodIn wsL_law (Cond.code yX3_nextOrder cX3_nextOrder 1 (some .boolean) :: wsL_law) := w0_C wq_27_8
theorem hd_X3_pass : yX3_pass.cls = RX3 ∧ yX3_pass.cls ≠ "java/lang/invoke/MethodHandle" ∧ yX3_pass.cls ≠ "java/lang/invoke/VarHandle" ∧ (parseMethodDescriptor yX3_pass.desc).map (fun d => d.parameters.length) = some 1 := by decide +kernel
theorem hs_X3_pass : yX3_pass.cls ≠ "java/lang/invoke/MethodHandle" ∧ yX3_pass.cls ≠ "java/lang/invoke/VarHandle" ∧ (parseMethodDescriptor yX3_pass.desc).map (fun d => d.parameters.length) = some 1 := hd_X3_pass.2
theorem gn_X3_pass : GoodIn wsL_law (Cond.code yX3_pass cX3_pass 2 (some .boolean) :: wsL_law) := w0_C wq_27_13
theorem hd_X3_readDigit : yX3_readDigit.cls = RX3 ∧ yX3_readDigit.cls ≠ "java/lang/invoke/MethodHandle" ∧ yX3_readDigit.cls ≠ "java/lang/invoke/VarHandle" ∧ (parseMethodDescriptor yX3_readDigit.desc).map (fun d => d.parameters.length) = some 0 := by decide +kernel
theorem hs_X3_readDigit : yX3_readDigit.cls ≠ "java/lang/invoke/MethodHandle" ∧ yX3_readDigit.cls ≠ "java/lang/invoke/VarHandle" ∧ (parseMethodDescriptor yX3_readDigit.desc).map (fun d => d.parameters.length) = some 0 := hd_X3_readDigit.2
theorem gn_X3_readDigit : GoodIn wsL_law (Cond.code yX3_readDigit cX3_readDigit 2 (some .boolean) :: wsL_law) := w0_C wq_28_4
theorem hd_X3_readNumber : yX3_readNumber.cls = RX3 ∧ yX3_readNumber.cls ≠ "java/lang/invoke/MethodHandle" ∧ yX3_readNumber.cls ≠ "java/lang/invoke/VarHandle" ∧ (parseMethodDescriptor yX3_readNumber.desc).map (fun d => d.parameters.length) = some 1 := by decide +kernel
theorem hs_X3_readNumber : yX3_readNumber.cls ≠ "java/lang/invoke/MethodHandle" ∧ yX3_readNumber.cls ≠ "java/lang/invoke/VarHandle" ∧ (parseMethodDescriptor yX3_readNumber.desc).map (fun d => d.parameters.length) = some 1 := hd_X3_readNumber.2
theorem gn_X3_readNumber : GoodIn wsL_law (Cond.code yX3_readNumber cX3_readNumber 4 (some .boolean) :: wsL_law) := w0_C wq_27_21
theorem hd_X3_readValue : yX3_readValue.cls = RX3 ∧ yX3_readValue.cls ≠ "java/lang/invoke/MethodHandle" ∧ yX3_readValue.cls ≠ "java/lang/invoke/VarHandle" ∧ (parseMethodDescriptor yX3_readValue.desc).map (fun d => d.parameters.length) = some 0 := by decide +kernel
theorem hs_X3_readValue : yX3_readValue.cls ≠ "java/lang/invoke/MethodHandle" ∧ yX3_readValue.cls ≠ "java/lang/invoke/VarHandle" ∧ (parseMethodDescriptor yX3_readValue.desc).map (fun d => d.parameters.length) = some 0 := hd_X3_readValue.2
theorem gn_X3_readValue : GoodIn wsL_law (Cond.code yX3_readValue cX3_readValue 2 (some .boolean) :: wsL_law) := w0_C wq_28_8
theorem hd_X3_rewind : yX3_rewind.cls = RX3 ∧ yX3_rewind.cls ≠ "java/lang/invoke/MethodHandle" ∧ yX3_rewind.cls ≠ "java/lang/invoke/VarHandle" ∧ (parseMethodDescriptor yX3_rewind.desc).map (fun d => d.parameters.length) = some 0 := by decide +kernel
theorem hs_X3_rewind : yX3_rewind.cls ≠ "java/lang/invoke/MethodHandle" ∧ yX3_rewind.cls ≠ "java/lang/invoke/VarHandle" ∧ (parseMethodDescriptor yX3_rewind.desc).map (fun d => d.parameters.length) = some 0 := hd_X3_rewind.2
theorem gn_X3_rewind : GoodIn wsL_law (Cond.code yX3_rewind cX3_rewind 1 none :: wsL_law) := w0_C wq_27_4
theorem hd_X3_signAt : yX3_signAt.cls = RX3 ∧ yX3_signAt.cls ≠ "java/lang/invoke/MethodHandle" ∧ yX3_signAt.cls ≠ "java/lang/invoke/VarHandle" ∧ (parseMethodDescriptor yX3_signAt.desc).map (fun d => d.parameters.length) = some 1 := by decide +kernel
theorem hs_X3_signAt : yX3_signAt.cls ≠ "java/lang/invoke/MethodHandle" ∧ yX3_signAt.cls ≠ "java/lang/invoke/VarHandle" ∧ (parseMethodDescriptor yX3_signAt.desc).map (fun d => d.parameters.length) = some 1 := hd_X3_signAt.2
theorem gn_X3_signAt : GoodIn wsL_law (Cond.code yX3_signAt cX3_signAt 2 (some .int) :: wsL_law) := w0_C wq_27_17
theorem hd_X4_addGauge : yX4_addGauge.cls = RX4 ∧ yX4_addGauge.cls ≠ "java/lang/invoke/MethodHandle" ∧ yX4_addGauge.cls ≠ "java/lang/invoke/VarHandle" ∧ (parseMethodDescriptor yX4_addGauge.desc).map (fun d => d.parameters.length) = some 3 := by decide +kernel
theorem hs_X4_addGauge : yX4_addGauge.cls ≠ "java/lang/invoke/MethodHandle" ∧ yX4_addGauge.cls ≠ "java/lang/invoke/VarHandle" ∧ (parseMethodDescriptor yX4_addGauge.desc).map (fun d => d.parameters.length) = some 3 := hd_X4_addGauge.2
theorem gn_X4_addGauge : GoodIn wsL_law (Cond.code yX4_addGauge cX4_addGauge 4 (some .int) :: wsL_law) := w0_C wq_14_10
theorem hd_X4_addRing : yX4_addRing.cls = RX4 ∧ yX4_addRing.cls ≠ "java/lang/invoke/MethodHandle" ∧ yX4_addRing.cls ≠ "java/lang/invoke/VarHandle" ∧ (parseMethodDescriptor yX4_addRing.desc).map (fun d => d.parameters.length) = some 1 := by decide +kernel
theorem hs_X4_addRing : yX4_addRing.cls ≠ "java/lang/invoke/MethodHandle" ∧ yX4_addRing.cls ≠ "java/lang/invoke/VarHandle" ∧ (parseMethodDescriptor yX4_addRing.desc).map (fun d => d.parameters.length) = some 1 := hd_X4_addRing.2
theorem gn_X4_addRing : GoodIn wsL_law (Cond.code yX4_addRing cX4_addRing 2 (some .int) :: wsL_law) := w0_C wq_11_2
theorem hd_X4_adjust : yX4_adjust.cls = RX4 ∧ yX4_adjust.cls ≠ "java/lang/invoke/MethodHandle" ∧ yX4_adjust.cls ≠ "java/lang/invoke/VarHandle" ∧ (parseMethodDescriptor yX4_adjust.desc).map (fun d => d.parameters.length) = some 2 := by decide +kernel
theorem hs_X4_adjust : yX4_adjust.cls ≠ "java/lang/invoke/MethodHandle" ∧ yX4_adjust.cls ≠ "java/lang/invoke/VarHandle" ∧ (parseMethodDescriptor yX4_adjust.desc).map (fun d => d.parameters.length) = some 2 := hd_X4_adjust.2
theorem gn_X4_adjust : GoodIn wsL_law (Cond.code yX4_adjust cX4_adjust 5 (some .int) :: wsL_law) := w0_C wq_15_13
theorem hd_X4_certifyBy : yX4_certifyBy.cls = RX4 ∧ yX4_certifyBy.cls ≠ "java/lang/invoke/MethodHandle" ∧ yX4_certifyBy.cls ≠ "java/lang/invoke/VarHandle" ∧ (parseMethodDescriptor yX4_certifyBy.desc).map (fun d => d.parameters.length) = some 2 := by decide +kernel
theorem hs_X4_certifyBy : yX4_certifyBy.cls ≠ "java/lang/invoke/MethodHandle" ∧ yX4_certifyBy.cls ≠ "java/lang/invoke/VarHandle" ∧ (parseMethodDescriptor yX4_certifyBy.desc).map (fun d => d.parameters.length) = some 2 := hd_X4_certifyBy.2
theorem gn_X4_certifyBy : GoodIn wsL_law (Cond.code yX4_certifyBy cX4_certifyBy 4 (some .int) :: wsL_law) := w0_C wq_16_10
theorem hd_X4_change : yX4_change.cls = RX4 ∧ yX4_change.cls ≠ "java/lang/invoke/MethodHandle" ∧ yX4_change.cls ≠ "java/lang/invoke/VarHandle" ∧ (parseMethodDescriptor yX4_change.desc).map (fun d => d.parameters.length) = some 2 := by decide +kernel
theorem hs_X4_change : yX4_change.cls ≠ "java/lang/invoke/MethodHandle" ∧ yX4_change.cls ≠ "java/lang/invoke/VarHandle" ∧ (parseMethodDescriptor yX4_change.desc).map (fun d => d.parameters.length) = some 2 := hd_X4_change.2
theorem gn_X4_change : GoodIn wsL_law (Cond.code yX4_change cX4_change 4 (some .int) :: wsL_law) := w0_C wq_5_18
theorem hd_X4_columnPressure : yX4_columnPressure.cls = RX4 ∧ yX4_columnPressure.cls ≠ "java/lang/invoke/MethodHandle" ∧ yX4_columnPressure.cls ≠ "java/lang/invoke/VarHandle" ∧ (parseMethodDescriptor yX4_columnPressure.desc).map (fun d => d.parameters.length) = some 0 := by decide +kernel
theorem hs_X4_columnPressure : yX4_columnPressure.cls ≠ "java/lang/invoke/MethodHandle" ∧ yX4_columnPressure.cls ≠ "java/lang/invoke/VarHandle" ∧ (parseMethodDescriptor yX4_columnPressure.desc).map (fun d => d.parameters.length) = some 0 := hd_X4_columnPressure.2
theorem gn_X4_columnPressure : GoodIn wsL_law (Cond.code yX4_columnPressure cX4_columnPressure 1 (some .int) :: wsL_law) := w0_C wq_6_7
theorem hd_X4_copyFrom : yX4_copyFrom.cls = RX4 ∧ yX4_copyFrom.cls ≠ "java/lang/invoke/MethodHandle" ∧ yX4_copyFrom.cls ≠ "java/lang/invoke/VarHandle" ∧ (parseMethodDescriptor yX4_copyFrom.desc).map (fun d => d.parameters.length) = some 1 := by decide +kernel
theorem hs_X4_copyFrom : yX4_copyFrom.cls ≠ "java/lang/invoke/MethodHandle" ∧ yX4_copyFrom.cls ≠ "java/lang/invoke/VarHandle" ∧ (parseMethodDescriptor yX4_copyFrom.desc).map (fun d => d.parameters.length) = some 1 := hd_X4_copyFrom.2
theorem gn_X4_copyFrom : GoodIn wsL_law (Cond.code yX4_copyFrom cX4_copyFrom 3 none :: wsL_law) := w0_C wq_4_22
theorem hd_X4_countCertificates : yX4_countCertificates.cls = RX4 ∧ yX4_countCertificates.cls ≠ "java/lang/invoke/MethodHandle" ∧ yX4_countCertificates.cls ≠ "java/lang/invoke/VarHandle" ∧ (parseMethodDescriptor yX4_countCertificates.desc).map (fun d => d.parameters.length) = some 0 := by decide +kernel
theorem hs_X4_countCertificates : yX4_countCertificates.cls ≠ "java/lang/invoke/MethodHandle" ∧ yX4_countCertificates.cls ≠ "java/lang/invoke/VarHandle" ∧ (parseMethodDescriptor yX4_countCertificates.desc).map (fun d => d.parameters.length) = some 0 := hd_X4_countCertificates.2
theorem gn_X4_countCertificates : GoodIn wsL_law (Cond.code yX4_countCertificates cX4_countCertificates 3 (some .int) :: wsL_law) := w0_C wq_22_0
theorem hd_X4_dropRing : yX4_dropRing.cls = RX4 ∧ yX4_dropRing.cls ≠ "java/lang/invoke/MethodHandle" ∧ yX4_dropRing.cls ≠ "java/lang/invoke/VarHandle" ∧ (parseMethodDescriptor yX4_dropRing.desc).map (fun d => d.parameters.length) = some 0 := by decide +kernel
theorem hs_X4_dropRing : yX4_dropRing.cls ≠ "java/lang/invoke/MethodHandle" ∧ yX4_dropRing.cls ≠ "java/lang/invoke/VarHandle" ∧ (parseMethodDescriptor yX4_dropRing.desc).map (fun d => d.parameters.length) = some 0 := hd_X4_dropRing.2
theorem gn_X4_dropRing : GoodIn wsL_law (Cond.code yX4_dropRing cX4_dropRing 1 (some .int) :: wsL_law) := w0_C wq_11_22
theorem hd_X4_gaugeAt : yX4_gaugeAt.cls = RX4 ∧ yX4_gaugeAt.cls ≠ "java/lang/invoke/MethodHandle" ∧ yX4_gaugeAt.cls ≠ "java/lang/invoke/VarHandle" ∧ (parseMethodDescriptor yX4_gaugeAt.desc).map (fun d => d.parameters.length) = some 1 := by decide +kernel
theorem hs_X4_gaugeAt : yX4_gaugeAt.cls ≠ "java/lang/invoke/MethodHandle" ∧ yX4_gaugeAt.cls ≠ "java/lang/invoke/VarHandle" ∧ (parseMethodDescriptor yX4_gaugeAt.desc).map (fun d => d.parameters.length) = some 1 := hd_X4_gaugeAt.2
theorem gn_X4_gaugeAt : GoodIn wsL_law (Cond.code yX4_gaugeAt cX4_gaugeAt 2 (some (.object "GaugeColumns$Gauge")) :: wsL_law) := w0_C wq_15_18
theorem hd_X4_hasRing : yX4_hasRing.cls = RX4 ∧ yX4_hasRing.cls ≠ "java/lang/invoke/MethodHandle" ∧ yX4_hasRing.cls ≠ "java/lang/invoke/VarHandle" ∧ (parseMethodDescriptor yX4_hasRing.desc).map (fun d => d.parameters.length) = some 1 := by decide +kernel
theorem hs_X4_hasRing : yX4_hasRing.cls ≠ "java/lang/invoke/MethodHandle" ∧ yX4_hasRing.cls ≠ "java/lang/invoke/VarHandle" ∧ (parseMethodDescriptor yX4_hasRing.desc).map (fun d => d.parameters.length) = some 1 := hd_X4_hasRing.2
theorem gn_X4_hasRing : GoodIn wsL_law (Cond.code yX4_hasRing cX4_hasRing 2 (some .boolean) :: wsL_law) := w0_C wq_12_14
theorem hd_X4_init : yX4_init.cls = RX4 ∧ yX4_init.cls ≠ "java/lang/invoke/MethodHandle" ∧ yX4_init.cls ≠ "java/lang/invoke/VarHandle" ∧ (parseMethodDescriptor yX4_init.desc).map (fun d => d.parameters.length) = some 0 := by decide +kernel
theorem hs_X4_init : yX4_init.cls ≠ "java/lang/invoke/MethodHandle" ∧ yX4_init.cls ≠ "java/lang/invoke/VarHandle" ∧ (parseMethodDescriptor yX4_init.desc).map (fun d => d.parameters.length) = some 0 := hd_X4_init.2
theorem gn_X4_init : GoodIn wsL_law (Cond.code yX4_init cX4_init 2 none :: wsL_law) := w0_C wq_2_8
theorem hd_X4_isStacked : yX4_isStacked.cls = RX4 ∧ yX4_isStacked.cls ≠ "java/lang/invoke/MethodHandle" ∧ yX4_isStacked.cls ≠ "java/lang/invoke/VarHandle" ∧ (parseMethodDescriptor yX4_isStacked.desc).map (fun d => d.parameters.length) = some 1 := by decide +kernel
theorem hs_X4_isStacked : yX4_isStacked.cls ≠ "java/lang/invoke/MethodHandle" ∧ yX4_isStacked.cls ≠ "java/lang/invoke/VarHandle" ∧ (parseMethodDescriptor yX4_isStacked.desc).map (fun d => d.parameters.length) = some 1 := hd_X4_isStacked.2
theorem gn_X4_isStacked : GoodIn wsL_law (Cond.code yX4_isStacked cX4_isStacked 2 (some .boolean) :: wsL_law) := w0_C wq_12_18
theorem hd_X4_massOf : yX4_massOf.cls = RX4 ∧ yX4_massOf.cls ≠ "java/lang/invoke/MethodHandle" ∧ yX4_massOf.cls ≠ "java/lang/invoke/VarHandle" ∧ (parseMethodDescriptor yX4_massOf.desc).map (fun d => d.parameters.length) = some 1 := by decide +kernel
theorem hs_X4_massOf : yX4_massOf.cls ≠ "java/lang/invoke/MethodHandle" ∧ yX4_massOf.cls ≠ "java/lang/invoke/VarHandle" ∧ (parseMethodDescriptor yX4_massOf.desc).map (fun d => d.parameters.length) = some 1 := hd_X4_massOf.2
theorem gn_X4_massOf : GoodIn wsL_law (Cond.code yX4_massOf cX4_massOf 4 (some .int) :: wsL_law) := w0_C wq_6_11
theorem hd_X4_massToNext : yX4_massToNext.cls = RX4 ∧ yX4_massToNext.cls ≠ "java/lang/invoke/MethodHandle" ∧ yX4_massToNext.cls ≠ "java/lang/invoke/VarHandle" ∧ (parseMethodDescriptor yX4_massToNext.desc).map (fun d => d.parameters.length) = some 1 := by decide +kernel
theorem hs_X4_massToNext : yX4_massToNext.cls ≠ "java/lang/invoke/MethodHandle" ∧ yX4_massToNext.cls ≠ "java/lang/invoke/VarHandle" ∧ (parseMethodDescriptor yX4_massToNext.desc).map (fun d => d.parameters.length) = some 1 := hd_X4_massToNext.2
theorem gn_X4_massToNext : GoodIn wsL_law (Cond.code yX4_massToNext cX4_massToNext 4 (some .int) :: wsL_law) := w0_C wq_23_15
theorem hd_X4_moveHands : yX4_moveHands.cls = RX4 ∧ yX4_moveHands.cls ≠ "java/lang/invoke/MethodHandle" ∧ yX4_moveHands.cls ≠ "java/lang/invoke/VarHandle" ∧ (parseMethodDescriptor yX4_moveHands.desc).map (fun d => d.parameters.length) = some 0 := by decide +kernel
theorem hs_X4_moveHands : yX4_moveHands.cls ≠ "java/lang/invoke/MethodHandle" ∧ yX4_moveHands.cls ≠ "java/lang/invoke/VarHandle" ∧ (parseMethodDescriptor yX4_moveHands.desc).map (fun d => d.parameters.length) = some 0 := hd_X4_moveHands.2
theorem gn_X4_moveHands : GoodIn wsL_law (Cond.code yX4_moveHands cX4_moveHands 3 (some .int) :: wsL_law) := w0_C wq_6_3
theorem hd_X4_nearestTo : yX4_nearestTo.cls = RX4 ∧ yX4_nearestTo.cls ≠ "java/lang/invoke/MethodHandle" ∧ yX4_nearestTo.cls ≠ "java/lang/invoke/VarHandle" ∧ (parseMethodDescriptor yX4_nearestTo.desc).map (fun d => d.parameters.length) = some 1 := by decide +kernel
theorem hs_X4_nearestTo : yX4_nearestTo.cls ≠ "java/lang/invoke/MethodHandle" ∧ yX4_nearestTo.cls ≠ "java/lang/invoke/VarHandle" ∧ (parseMethodDescriptor yX4_nearestTo.desc).map (fun d => d.parameters.length) = some 1 := hd_X4_nearestTo.2
theorem gn_X4_nearestTo : GoodIn wsL_law (Cond.code yX4_nearestTo cX4_nearestTo 7 (some .int) :: wsL_law) := w0_C wq_23_2
theorem hd_X4_placeOf : yX4_placeOf.cls = RX4 ∧ yX4_placeOf.cls ≠ "java/lang/invoke/MethodHandle" ∧ yX4_placeOf.cls ≠ "java/lang/invoke/VarHandle" ∧ (parseMethodDescriptor yX4_placeOf.desc).map (fun d => d.parameters.length) = some 1 := by decide +kernel
theorem hs_X4_placeOf : yX4_placeOf.cls ≠ "java/lang/invoke/MethodHandle" ∧ yX4_placeOf.cls ≠ "java/lang/invoke/VarHandle" ∧ (parseMethodDescriptor yX4_placeOf.desc).map (fun d => d.parameters.length) = some 1 := hd_X4_placeOf.2
theorem gn_X4_placeOf : GoodIn wsL_law (Cond.code yX4_placeOf cX4_placeOf 4 (some .int) :: wsL_law) := w0_C wq_17_2
theorem hd_X4_pressureOf : yX4_pressureOf.cls = RX4 ∧ yX4_pressureOf.cls ≠ "java/lang/invoke/MethodHandle" ∧ yX4_pressureOf.cls ≠ "java/lang/invoke/VarHandle" ∧ (parseMethodDescriptor yX4_pressureOf.desc).map (fun d => d.parameters.length) = some 2 := by decide +kernel
theorem hs_X4_pressureOf : yX4_pressureOf.cls ≠ "java/lang/invoke/MethodHandle" ∧ yX4_pressureOf.cls ≠ "java/lang/invoke/VarHandle" ∧ (parseMethodDescriptor yX4_pressureOf.desc).map (fun d => d.parameters.length) = some 2 := hd_X4_pressureOf.2
theorem gn_X4_pressureOf : GoodIn wsL_law (Cond.code yX4_pressureOf cX4_pressureOf 3 (some .int) :: wsL_law) := w0_C wq_6_15
theorem hd_X4_putOn : yX4_putOn.cls = RX4 ∧ yX4_putOn.cls ≠ "java/lang/invoke/MethodHandle" ∧ yX4_putOn.cls ≠ "java/lang/invoke/VarHandle" ∧ (parseMethodDescriptor yX4_putOn.desc).map (fun d => d.parameters.length) = some 1 := by decide +kernel
theorem hs_X4_putOn : yX4_putOn.cls ≠ "java/lang/invoke/MethodHandle" ∧ yX4_putOn.cls ≠ "java/lang/invoke/VarHandle" ∧ (parseMethodDescriptor yX4_putOn.desc).map (fun d => d.parameters.length) = some 1 := hd_X4_putOn.2
theorem gn_X4_putOn : GoodIn wsL_law (Cond.code yX4_putOn cX4_putOn 2 (some .int) :: wsL_law) := w0_C wq_12_10
theorem hd_X4_takeOff : yX4_takeOff.cls = RX4 ∧ yX4_takeOff.cls ≠ "java/lang/invoke/MethodHandle" ∧ yX4_takeOff.cls ≠ "java/lang/invoke/VarHandle" ∧ (parseMethodDescriptor yX4_takeOff.desc).map (fun d => d.parameters.length) = some 1 := by decide +kernel
theorem hs_X4_takeOff : yX4_takeOff.cls ≠ "java/lang/invoke/MethodHandle" ∧ yX4_takeOff.cls ≠ "java/lang/invoke/VarHandle" ∧ (parseMethodDescriptor yX4_takeOff.desc).map (fun d => d.parameters.length) = some 1 := hd_X4_takeOff.2
theorem gn_X4_takeOff : GoodIn wsL_law (Cond.code yX4_takeOff cX4_takeOff 2 (some .int) :: wsL_law) := w0_C wq_13_22
theorem hd_X4_voidCertificates : yX4_voidCertificates.cls = RX4 ∧ yX4_voidCertificates.cls ≠ "java/lang/invoke/MethodHandle" ∧ yX4_voidCertificates.cls ≠ "java/lang/invoke/VarHandle" ∧ (parseMethodDescriptor yX4_voidCertificates.desc).map (fun d => d.parameters.length) = some 0 := by decide +kernel
theorem hs_X4_voidCertificates : yX4_voidCertificates.cls ≠ "java/lang/invoke/MethodHandle" ∧ yX4_voidCertificates.cls ≠ "java/lang/invoke/VarHandle" ∧ (parseMethodDescriptor yX4_voidCertificates.desc).map (fun d => d.parameters.length) = some 0 := hd_X4_voidCertificates.2
theorem gn_X4_voidCertificates : GoodIn wsL_law (Cond.code yX4_voidCertificates cX4_voidCertificates 2 none :: wsL_law) := w0_C wq_5_22
theorem hd_X5_init : yX5_init.cls = RX5 ∧ yX5_init.cls ≠ "java/lang/invoke/MethodHandle" ∧ yX5_init.cls ≠ "java/lang/invoke/VarHandle" ∧ (parseMethodDescriptor yX5_init.desc).map (fun d => d.parameters.length) = some 0 := by decide +kernel
theorem hs_X5_init : yX5_init.cls ≠ "java/lang/invoke/MethodHandle" ∧ yX5_init.cls ≠ "java/lang/invoke/VarHandle" ∧ (parseMethodDescriptor yX5_init.desc).map (fun d => d.parameters.length) = some 0 := hd_X5_init.2
theorem gn_X5_init : GoodIn wsL_law (Cond.code yX5_init cX5_init 1 none :: wsL_law) := w0_C wq_3_10
theorem hd_X5_prepare : yX5_prepare.cls = RX5 ∧ yX5_prepare.cls ≠ "java/lang/invoke/MethodHandle" ∧ yX5_prepare.cls ≠ "java/lang/invoke/VarHandle" ∧ (parseMethodDescriptor yX5_prepare.desc).map (fun d => d.parameters.length) = some 1 := by decide +kernel
theorem hs_X5_prepare : yX5_prepare.cls ≠ "java/lang/invoke/MethodHandle" ∧ yX5_prepare.cls ≠ "java/lang/invoke/VarHandle" ∧ (parseMethodDescriptor yX5_prepare.desc).map (fun d => d.parameters.length) = some 1 := hd_X5_prepare.2
theorem gn_X5_prepare : GoodIn wsL_law (Cond.code yX5_prepare cX5_prepare 5 none :: wsL_law) := w0_C wq_16_18
theorem hd_X5_run : yX5_run.cls = RX5 ∧ yX5_run.cls ≠ "java/lang/invoke/MethodHandle" ∧ yX5_run.cls ≠ "java/lang/invoke/VarHandle" ∧ (parseMethodDescriptor yX5_run.desc).map (fun d => d.parameters.length) = some 2 := by decide +kernel
theorem hs_X5_run : yX5_run.cls ≠ "java/lang/invoke/MethodHandle" ∧ yX5_run.cls ≠ "java/lang/invoke/VarHandle" ∧ (parseMethodDescriptor yX5_run.desc).map (fun d => d.parameters.length) = some 2 := hd_X5_run.2
theorem gn_X5_run : GoodIn wsL_law (Cond.code yX5_run cX5_run 6 none :: wsL_law) := w0_C wq_17_7
theorem hd_X6_carryOutOrder : yX6_carryOutOrder.cls = RX6 ∧ yX6_carryOutOrder.cls ≠ "java/lang/invoke/MethodHandle" ∧ yX6_carryOutOrder.cls ≠ "java/lang/invoke/VarHandle" ∧ (parseMethodDescriptor yX6_carryOutOrder.desc).map (fun d => d.parameters.length) = some 0 := by decide +kernel
theorem hs_X6_carryOutOrder : yX6_carryOutOrder.cls ≠ "java/lang/invoke/MethodHandle" ∧ yX6_carryOutOrder.cls ≠ "java/lang/invoke/VarHandle" ∧ (parseMethodDescriptor yX6_carryOutOrder.desc).map (fun d => d.parameters.length) = some 0 := hd_X6_carryOutOrder.2
theorem gn_X6_carryOutOrder : GoodIn wsL_law (Cond.code yX6_carryOutOrder cX6_carryOutOrder 2 (some .int) :: wsL_law) := w0_C wq_30_7
theorem hd_X6_dividedDown : yX6_dividedDown.cls = RX6 ∧ yX6_dividedDown.cls ≠ "java/lang/invoke/MethodHandle" ∧ yX6_dividedDown.cls ≠ "java/lang/invoke/VarHandle" ∧ (parseMethodDescriptor yX6_dividedDown.desc).map (fun d => d.parameters.length) = some 2 := by decide +kernel
theorem hs_X6_dividedDown : yX6_dividedDown.cls ≠ "java/lang/invoke/MethodHandle" ∧ yX6_dividedDown.cls ≠ "java/lang/invoke/VarHandle" ∧ (parseMethodDescriptor yX6_dividedDown.desc).map (fun d => d.parameters.length) = some 2 := hd_X6_dividedDown.2
theorem gn_X6_dividedDown : GoodIn wsL_law (Cond.code yX6_dividedDown cX6_dividedDown 2 (some .int) :: wsL_law) := w0_C wq_6_23
theorem hd_X6_dividedRounded : yX6_dividedRounded.cls = RX6 ∧ yX6_dividedRounded.cls ≠ "java/lang/invoke/MethodHandle" ∧ yX6_dividedRounded.cls ≠ "java/lang/invoke/VarHandle" ∧ (parseMethodDescriptor yX6_dividedRounded.desc).map (fun d => d.parameters.length) = some 2 := by decide +kernel
theorem hs_X6_dividedRounded : yX6_dividedRounded.cls ≠ "java/lang/invoke/MethodHandle" ∧ yX6_dividedRounded.cls ≠ "java/lang/invoke/VarHandle" ∧ (parseMethodDescriptor yX6_dividedRounded.desc).map (fun d => d.parameters.length) = some 2 := hd_X6_dividedRounded.2
theorem gn_X6_dividedRounded : GoodIn wsL_law (Cond.code yX6_dividedRounded cX6_dividedRounded 2 (some .int) :: wsL_law) := w0_C wq_6_21
theorem hd_X6_weightOf : yX6_weightOf.cls = RX6 ∧ yX6_weightOf.cls ≠ "java/lang/invoke/MethodHandle" ∧ yX6_weightOf.cls ≠ "java/lang/invoke/VarHandle" ∧ (parseMethodDescriptor yX6_weightOf.desc).map (fun d => d.parameters.length) = some 2 := by decide +kernel
theorem hs_X6_weightOf : yX6_weightOf.cls ≠ "java/lang/invoke/MethodHandle" ∧ yX6_weightOf.cls ≠ "java/lang/invoke/VarHandle" ∧ (parseMethodDescriptor yX6_weightOf.desc).map (fun d => d.parameters.length) = some 2 := hd_X6_weightOf.2
theorem gn_X6_weightOf : GoodIn wsL_law (Cond.code yX6_weightOf cX6_weightOf 2 (some .int) :: wsL_law) := w0_C wq_6_17
theorem hd_X7_bits : yX7_bits.cls = RX7 ∧ yX7_bits.cls ≠ "java/lang/invoke/MethodHandle" ∧ yX7_bits.cls ≠ "java/lang/invoke/VarHandle" ∧ (parseMethodDescriptor yX7_bits.desc).map (fun d => d.parameters.length) = some 1 := by decide +kernel
theorem hs_X7_bits : yX7_bits.cls ≠ "java/lang/invoke/MethodHandle" ∧ yX7_bits.cls ≠ "java/lang/invoke/VarHandle" ∧ (parseMethodDescriptor yX7_bits.desc).map (fun d => d.parameters.length) = some 1 := hd_X7_bits.2
theorem gn_X7_bits : GoodIn wsL_law (Cond.code yX7_bits cX7_bits 3 (some .int) :: wsL_law) := w0_C wq_23_22
theorem hd_X7_certificates : yX7_certificates.cls = RX7 ∧ yX7_certificates.cls ≠ "java/lang/invoke/MethodHandle" ∧ yX7_certificates.cls ≠ "java/lang/invoke/VarHandle" ∧ (parseMethodDescriptor yX7_certificates.desc).map (fun d => d.parameters.length) = some 0 := by decide +kernel
theorem hs_X7_certificates : yX7_certificates.cls ≠ "java/lang/invoke/MethodHandle" ∧ yX7_certificates.cls ≠ "java/lang/invoke/VarHandle" ∧ (parseMethodDescriptor yX7_certificates.desc).map (fun d => d.parameters.length) = some 0 := hd_X7_certificates.2
theorem gn_X7_certificates : GoodIn wsL_law (Cond.code yX7_certificates cX7_certificates 3 (some .int) :: wsL_law) := w0_C wq_22_9
theorem hd_X7_certifies : yX7_certifies.cls = RX7 ∧ yX7_certifies.cls ≠ "java/lang/invoke/MethodHandle" ∧ yX7_certifies.cls ≠ "java/lang/invoke/VarHandle" ∧ (parseMethodDescriptor yX7_certifies.desc).map (fun d => d.parameters.length) = some 1 := by decide +kernel
theorem hs_X7_certifies : yX7_certifies.cls ≠ "java/lang/invoke/MethodHandle" ∧ yX7_certifies.cls ≠ "java/lang/invoke/VarHandle" ∧ (parseMethodDescriptor yX7_certifies.desc).map (fun d => d.parameters.length) = some 1 := hd_X7_certifies.2
theorem gn_X7_certifies : GoodIn wsL_law (Cond.code yX7_certifies cX7_certifies 3 (some .int) :: wsL_law) := w0_C wq_19_0
theorem hd_X7_character : yX7_character.cls = RX7 ∧ yX7_character.cls ≠ "java/lang/invoke/MethodHandle" ∧ yX7_character.cls ≠ "java/lang/invoke/VarHandle" ∧ (parseMethodDescriptor yX7_character.desc).map (fun d => d.parameters.length) = some 1 := by decide +kernel
theorem hs_X7_character : yX7_character.cls ≠ "java/lang/invoke/MethodHandle" ∧ yX7_character.cls ≠ "java/lang/invoke/VarHandle" ∧ (parseMethodDescriptor yX7_character.desc).map (fun d => d.parameters.length) = some 1 := hd_X7_character.2
theorem gn_X7_character : GoodIn wsL_law (Cond.code yX7_character cX7_character 2 (some .int) :: wsL_law) := w0_C wq_29_3
theorem hd_X7_comes : yX7_comes.cls = RX7 ∧ yX7_comes.cls ≠ "java/lang/invoke/MethodHandle" ∧ yX7_comes.cls ≠ "java/lang/invoke/VarHandle" ∧ (parseMethodDescriptor yX7_comes.desc).map (fun d => d.parameters.length) = some 1 := by decide +kernel
theorem hs_X7_comes : yX7_comes.cls ≠ "java/lang/invoke/MethodHandle" ∧ yX7_comes.cls ≠ "java/lang/invoke/VarHandle" ∧ (parseMethodDescriptor yX7_comes.desc).map (fun d => d.parameters.length) = some 1 := hd_X7_comes.2
theorem gn_X7_comes : GoodIn wsL_law (Cond.code yX7_comes cX7_comes 2 (some .int) :: wsL_law) := w0_C wq_11_14
theorem hd_X7_comesGauge : yX7_comesGauge.cls = RX7 ∧ yX7_comesGauge.cls ≠ "java/lang/invoke/MethodHandle" ∧ yX7_comesGauge.cls ≠ "java/lang/invoke/VarHandle" ∧ (parseMethodDescriptor yX7_comesGauge.desc).map (fun d => d.parameters.length) = some 3 := by decide +kernel
theorem hs_X7_comesGauge : yX7_comesGauge.cls ≠ "java/lang/invoke/MethodHandle" ∧ yX7_comesGauge.cls ≠ "java/lang/invoke/VarHandle" ∧ (parseMethodDescriptor yX7_comesGauge.desc).map (fun d => d.parameters.length) = some 3 := hd_X7_comesGauge.2
theorem gn_X7_comesGauge : GoodIn wsL_law (Cond.code yX7_comesGauge cX7_comesGauge 6 (some .int) :: wsL_law) := w0_C wq_15_5
theorem hd_X7_does : yX7_does.cls = RX7 ∧ yX7_does.cls ≠ "java/lang/invoke/MethodHandle" ∧ yX7_does.cls ≠ "java/lang/invoke/VarHandle" ∧ (parseMethodDescriptor yX7_does.desc).map (fun d => d.parameters.length) = some 0 := by decide +kernel
theorem hs_X7_does : yX7_does.cls ≠ "java/lang/invoke/MethodHandle" ∧ yX7_does.cls ≠ "java/lang/invoke/VarHandle" ∧ (parseMethodDescriptor yX7_does.desc).map (fun d => d.parameters.length) = some 0 := hd_X7_does.2
theorem gn_X7_does : GoodIn wsL_law (Cond.code yX7_does cX7_does 1 none :: wsL_law) := w0_C wq_30_21
theorem hd_X7_findFault : yX7_findFault.cls = RX7 ∧ yX7_findFault.cls ≠ "java/lang/invoke/MethodHandle" ∧ yX7_findFault.cls ≠ "java/lang/invoke/VarHandle" ∧ (parseMethodDescriptor yX7_findFault.desc).map (fun d => d.parameters.length) = some 0 := by decide +kernel
theorem hs_X7_findFault : yX7_findFault.cls ≠ "java/lang/invoke/MethodHandle" ∧ yX7_findFault.cls ≠ "java/lang/invoke/VarHandle" ∧ (parseMethodDescriptor yX7_findFault.desc).map (fun d => d.parameters.length) = some 0 := hd_X7_findFault.2
theorem gn_X7_findFault : GoodIn wsL_law (Cond.code yX7_findFault cX7_findFault 1 (some .int) :: wsL_law) := w0_C wq_28_16
theorem hd_X7_findOrder : yX7_findOrder.cls = RX7 ∧ yX7_findOrder.cls ≠ "java/lang/invoke/MethodHandle" ∧ yX7_findOrder.cls ≠ "java/lang/invoke/VarHandle" ∧ (parseMethodDescriptor yX7_findOrder.desc).map (fun d => d.parameters.length) = some 0 := by decide +kernel
theorem hs_X7_findOrder : yX7_findOrder.cls ≠ "java/lang/invoke/MethodHandle" ∧ yX7_findOrder.cls ≠ "java/lang/invoke/VarHandle" ∧ (parseMethodDescriptor yX7_findOrder.desc).map (fun d => d.parameters.length) = some 0 := hd_X7_findOrder.2
theorem gn_X7_findOrder : GoodIn wsL_law (Cond.code yX7_findOrder cX7_findOrder 3 none :: wsL_law) := w0_C wq_19_10
theorem hd_X7_goesTo : yX7_goesTo.cls = RX7 ∧ yX7_goesTo.cls ≠ "java/lang/invoke/MethodHandle" ∧ yX7_goesTo.cls ≠ "java/lang/invoke/VarHandle" ∧ (parseMethodDescriptor yX7_goesTo.desc).map (fun d => d.parameters.length) = some 4 := by decide +kernel
theorem hs_X7_goesTo : yX7_goesTo.cls ≠ "java/lang/invoke/MethodHandle" ∧ yX7_goesTo.cls ≠ "java/lang/invoke/VarHandle" ∧ (parseMethodDescriptor yX7_goesTo.desc).map (fun d => d.parameters.length) = some 4 := hd_X7_goesTo.2
theorem gn_X7_goesTo : GoodIn wsL_law (Cond.code yX7_goesTo cX7_goesTo 5 (some .int) :: wsL_law) := w0_C wq_10_12
theorem hd_X7_handGoes : yX7_handGoes.cls = RX7 ∧ yX7_handGoes.cls ≠ "java/lang/invoke/MethodHandle" ∧ yX7_handGoes.cls ≠ "java/lang/invoke/VarHandle" ∧ (parseMethodDescriptor yX7_handGoes.desc).map (fun d => d.parameters.length) = some 1 := by decide +kernel
theorem hs_X7_handGoes : yX7_handGoes.cls ≠ "java/lang/invoke/MethodHandle" ∧ yX7_handGoes.cls ≠ "java/lang/invoke/VarHandle" ∧ (parseMethodDescriptor yX7_handGoes.desc).map (fun d => d.parameters.length) = some 1 := hd_X7_handGoes.2
theorem gn_X7_handGoes : GoodIn wsL_law (Cond.code yX7_handGoes cX7_handGoes 2 none :: wsL_law) := w0_C wq_9_9
theorem hd_X7_handsGo : yX7_handsGo.cls = RX7 ∧ yX7_handsGo.cls ≠ "java/lang/invoke/MethodHandle" ∧ yX7_handsGo.cls ≠ "java/lang/invoke/VarHandle" ∧ (parseMethodDescriptor yX7_handsGo.desc).map (fun d => d.parameters.length) = some 0 := by decide +kernel
theorem hs_X7_handsGo : yX7_handsGo.cls ≠ "java/lang/invoke/MethodHandle" ∧ yX7_handsGo.cls ≠ "java/lang/invoke/VarHandle" ∧ (parseMethodDescriptor yX7_handsGo.desc).map (fun d => d.parameters.length) = some 0 := hd_X7_handsGo.2
theorem gn_X7_handsGo : GoodIn wsL_law (Cond.code yX7_handsGo cX7_handsGo 2 none :: wsL_law) := w0_C wq_9_5
theorem hd_X7_isError : yX7_isError.cls = RX7 ∧ yX7_isError.cls ≠ "java/lang/invoke/MethodHandle" ∧ yX7_isError.cls ≠ "java/lang/invoke/VarHandle" ∧ (parseMethodDescriptor yX7_isError.desc).map (fun d => d.parameters.length) = some 1 := by decide +kernel
theorem hs_X7_isError : yX7_isError.cls ≠ "java/lang/invoke/MethodHandle" ∧ yX7_isError.cls ≠ "java/lang/invoke/VarHandle" ∧ (parseMethodDescriptor yX7_isError.desc).map (fun d => d.parameters.length) = some 1 := hd_X7_isError.2
theorem gn_X7_isError : GoodIn wsL_law (Cond.code yX7_isError cX7_isError 1 (some .boolean) :: wsL_law) := w0_C wq_15_1
theorem hd_X7_isGauge : yX7_isGauge.cls = RX7 ∧ yX7_isGauge.cls ≠ "java/lang/invoke/MethodHandle" ∧ yX7_isGauge.cls ≠ "java/lang/invoke/VarHandle" ∧ (parseMethodDescriptor yX7_isGauge.desc).map (fun d => d.parameters.length) = some 1 := by decide +kernel
theorem hs_X7_isGauge : yX7_isGauge.cls ≠ "java/lang/invoke/MethodHandle" ∧ yX7_isGauge.cls ≠ "java/lang/invoke/VarHandle" ∧ (parseMethodDescriptor yX7_isGauge.desc).map (fun d => d.parameters.length) = some 1 := hd_X7_isGauge.2
theorem gn_X7_isGauge : GoodIn wsL_law (Cond.code yX7_isGauge cX7_isGauge 2 (some .boolean) :: wsL_law) := w0_C wq_16_2
theorem hd_X7_isMoved : yX7_isMoved.cls = RX7 ∧ yX7_isMoved.cls ≠ "java/lang/invoke/MethodHandle" ∧ yX7_isMoved.cls ≠ "java/lang/invoke/VarHandle" ∧ (parseMethodDescriptor yX7_isMoved.desc).map (fun d => d.parameters.length) = some 1 := by decide +kernel
theorem hs_X7_isMoved : yX7_isMoved.cls ≠ "java/lang/invoke/MethodHandle" ∧ yX7_isMoved.cls ≠ "java/lang/invoke/VarHandle" ∧ (parseMethodDescriptor yX7_isMoved.desc).map (fun d => d.parameters.length) = some 1 := hd_X7_isMoved.2
theorem gn_X7_isMoved : GoodIn wsL_law (Cond.code yX7_isMoved cX7_isMoved 2 (some .int) :: wsL_law) := w0_C wq_13_14
theorem hd_X7_isNext : yX7_isNext.cls = RX7 ∧ yX7_isNext.cls ≠ "java/lang/invoke/MethodHandle" ∧ yX7_isNext.cls ≠ "java/lang/invoke/VarHandle" ∧ (parseMethodDescriptor yX7_isNext.desc).map (fun d => d.parameters.length) = some 1 := by decide +kernel
theorem hs_X7_isNext : yX7_isNext.cls ≠ "java/lang/invoke/MethodHandle" ∧ yX7_isNext.cls ≠ "java/lang/invoke/VarHandle" ∧ (parseMethodDescriptor yX7_isNext.desc).map (fun d => d.parameters.length) = some 1 := hd_X7_isNext.2
theorem gn_X7_isNext : GoodIn wsL_law (Cond.code yX7_isNext cX7_isNext 3 (some .boolean) :: wsL_law) := w0_C wq_29_21
theorem hd_X7_isRing : yX7_isRing.cls = RX7 ∧ yX7_isRing.cls ≠ "java/lang/invoke/MethodHandle" ∧ yX7_isRing.cls ≠ "java/lang/invoke/VarHandle" ∧ (parseMethodDescriptor yX7_isRing.desc).map (fun d => d.parameters.length) = some 1 := by decide +kernel
theorem hs_X7_isRing : yX7_isRing.cls ≠ "java/lang/invoke/MethodHandle" ∧ yX7_isRing.cls ≠ "java/lang/invoke/VarHandle" ∧ (parseMethodDescriptor yX7_isRing.desc).map (fun d => d.parameters.length) = some 1 := hd_X7_isRing.2
theorem gn_X7_isRing : GoodIn wsL_law (Cond.code yX7_isRing cX7_isRing 2 (some .boolean) :: wsL_law) := w0_C wq_13_6
theorem hd_X7_isStacked : yX7_isStacked.cls = RX7 ∧ yX7_isStacked.cls ≠ "java/lang/invoke/MethodHandle" ∧ yX7_isStacked.cls ≠ "java/lang/invoke/VarHandle" ∧ (parseMethodDescriptor yX7_isStacked.desc).map (fun d => d.parameters.length) = some 1 := by decide +kernel
theorem hs_X7_isStacked : yX7_isStacked.cls ≠ "java/lang/invoke/MethodHandle" ∧ yX7_isStacked.cls ≠ "java/lang/invoke/VarHandle" ∧ (parseMethodDescriptor yX7_isStacked.desc).map (fun d => d.parameters.length) = some 1 := hd_X7_isStacked.2
theorem gn_X7_isStacked : GoodIn wsL_law (Cond.code yX7_isStacked cX7_isStacked 2 (some .boolean) :: wsL_law) := w0_C wq_13_10
theorem hd_X7_isValue : yX7_isValue.cls = RX7 ∧ yX7_isValue.cls ≠ "java/lang/invoke/MethodHandle" ∧ yX7_isValue.cls ≠ "java/lang/invoke/VarHandle" ∧ (parseMethodDescriptor yX7_isValue.desc).map (fun d => d.parameters.length) = some 2 := by decide +kernel
theorem hs_X7_isValue : yX7_isValue.cls ≠ "java/lang/invoke/MethodHandle" ∧ yX7_isValue.cls ≠ "java/lang/invoke/VarHandle" ∧ (parseMethodDescriptor yX7_isValue.desc).map (fun d => d.parameters.length) = some 2 := hd_X7_isValue.2
theorem gn_X7_isValue : GoodIn wsL_law (Cond.code yX7_isValue cX7_isValue 2 (some .boolean) :: wsL_law) := w0_C wq_7_22
theorem hd_X7_massOf : yX7_massOf.cls = RX7 ∧ yX7_massOf.cls ≠ "java/lang/invoke/MethodHandle" ∧ yX7_massOf.cls ≠ "java/lang/invoke/VarHandle" ∧ (parseMethodDescriptor yX7_massOf.desc).map (fun d => d.parameters.length) = some 1 := by decide +kernel
theorem hs_X7_massOf : yX7_massOf.cls ≠ "java/lang/invoke/MethodHandle" ∧ yX7_massOf.cls ≠ "java/lang/invoke/VarHandle" ∧ (parseMethodDescriptor yX7_massOf.desc).map (fun d => d.parameters.length) = some 1 := hd_X7_massOf.2
theorem gn_X7_massOf : GoodIn wsL_law (Cond.code yX7_massOf cX7_massOf 4 (some .int) :: wsL_law) := w0_C wq_9_21
theorem hd_X7_moves : yX7_moves.cls = RX7 ∧ yX7_moves.cls ≠ "java/lang/invoke/MethodHandle" ∧ yX7_moves.cls ≠ "java/lang/invoke/VarHandle" ∧ (parseMethodDescriptor yX7_moves.desc).map (fun d => d.parameters.length) = some 4 := by decide +kernel
theorem hs_X7_moves : yX7_moves.cls ≠ "java/lang/invoke/MethodHandle" ∧ yX7_moves.cls ≠ "java/lang/invoke/VarHandle" ∧ (parseMethodDescriptor yX7_moves.desc).map (fun d => d.parameters.length) = some 4 := hd_X7_moves.2
theorem gn_X7_moves : GoodIn wsL_law (Cond.code yX7_moves cX7_moves 5 none :: wsL_law) := w0_C wq_8_9
theorem hd_X7_part : yX7_part.cls = RX7 ∧ yX7_part.cls ≠ "java/lang/invoke/MethodHandle" ∧ yX7_part.cls ≠ "java/lang/invoke/VarHandle" ∧ (parseMethodDescriptor yX7_part.desc).map (fun d => d.parameters.length) = some 2 := by decide +kernel
theorem hs_X7_part : yX7_part.cls ≠ "java/lang/invoke/MethodHandle" ∧ yX7_part.cls ≠ "java/lang/invoke/VarHandle" ∧ (parseMethodDescriptor yX7_part.desc).map (fun d => d.parameters.length) = some 2 := hd_X7_part.2
theorem gn_X7_part : GoodIn wsL_law (Cond.code yX7_part cX7_part 3 (some .int) :: wsL_law) := w0_C wq_9_13
theorem hd_X7_placeOf : yX7_placeOf.cls = RX7 ∧ yX7_placeOf.cls ≠ "java/lang/invoke/MethodHandle" ∧ yX7_placeOf.cls ≠ "java/lang/invoke/VarHandle" ∧ (parseMethodDescriptor yX7_placeOf.desc).map (fun d => d.parameters.length) = some 1 := by decide +kernel
theorem hs_X7_placeOf : yX7_placeOf.cls ≠ "java/lang/invoke/MethodHandle" ∧ yX7_placeOf.cls ≠ "java/lang/invoke/VarHandle" ∧ (parseMethodDescriptor yX7_placeOf.desc).map (fun d => d.parameters.length) = some 1 := hd_X7_placeOf.2
theorem gn_X7_placeOf : GoodIn wsL_law (Cond.code yX7_placeOf cX7_placeOf 4 (some .int) :: wsL_law) := w0_C wq_20_5
theorem hd_X7_pressureBy : yX7_pressureBy.cls = RX7 ∧ yX7_pressureBy.cls ≠ "java/lang/invoke/MethodHandle" ∧ yX7_pressureBy.cls ≠ "java/lang/invoke/VarHandle" ∧ (parseMethodDescriptor yX7_pressureBy.desc).map (fun d => d.parameters.length) = some 2 := by decide +kernel
theorem hs_X7_pressureBy : yX7_pressureBy.cls ≠ "java/lang/invoke/MethodHandle" ∧ yX7_pressureBy.cls ≠ "java/lang/invoke/VarHandle" ∧ (parseMethodDescriptor yX7_pressureBy.desc).map (fun d => d.parameters.length) = some 2 := hd_X7_pressureBy.2
theorem gn_X7_pressureBy : GoodIn wsL_law (Cond.code yX7_pressureBy cX7_pressureBy 3 (some .int) :: wsL_law) := w0_C wq_10_1
theorem hd_X7_pressureOf : yX7_pressureOf.cls = RX7 ∧ yX7_pressureOf.cls ≠ "java/lang/invoke/MethodHandle" ∧ yX7_pressureOf.cls ≠ "java/lang/invoke/VarHandle" ∧ (parseMethodDescriptor yX7_pressureOf.desc).map (fun d => d.parameters.length) = some 1 := by decide +kernel
theorem hs_X7_pressureOf : yX7_pressureOf.cls ≠ "java/lang/invoke/MethodHandle" ∧ yX7_pressureOf.cls ≠ "java/lang/invoke/VarHandle" ∧ (parseMethodDescriptor yX7_pressureOf.desc).map (fun d => d.parameters.length) = some 1 := hd_X7_pressureOf.2
theorem gn_X7_pressureOf : GoodIn wsL_law (Cond.code yX7_pressureOf cX7_pressureOf 2 (some .int) :: wsL_law) := w0_C wq_9_17
theorem hd_X7_reads : yX7_reads.cls = RX7 ∧ yX7_reads.cls ≠ "java/lang/invoke/MethodHandle" ∧ yX7_reads.cls ≠ "java/lang/invoke/VarHandle" ∧ (parseMethodDescriptor yX7_reads.desc).map (fun d => d.parameters.length) = some 2 := by decide +kernel
theorem hs_X7_reads : yX7_reads.cls ≠ "java/lang/invoke/MethodHandle" ∧ yX7_reads.cls ≠ "java/lang/invoke/VarHandle" ∧ (parseMethodDescriptor yX7_reads.desc).map (fun d => d.parameters.length) = some 2 := hd_X7_reads.2
theorem gn_X7_reads : GoodIn wsL_law (Cond.code yX7_reads cX7_reads 2 (some .int) :: wsL_law) := w0_C wq_19_13
theorem hd_X7_readsGauge : yX7_readsGauge.cls = RX7 ∧ yX7_readsGauge.cls ≠ "java/lang/invoke/MethodHandle" ∧ yX7_readsGauge.cls ≠ "java/lang/invoke/VarHandle" ∧ (parseMethodDescriptor yX7_readsGauge.desc).map (fun d => d.parameters.length) = some 0 := by decide +kernel
theorem hs_X7_readsGauge : yX7_readsGauge.cls ≠ "java/lang/invoke/MethodHandle" ∧ yX7_readsGauge.cls ≠ "java/lang/invoke/VarHandle" ∧ (parseMethodDescriptor yX7_readsGauge.desc).map (fun d => d.parameters.length) = some 0 := hd_X7_readsGauge.2
theorem gn_X7_readsGauge : GoodIn wsL_law (Cond.code yX7_readsGauge cX7_readsGauge 3 (some .boolean) :: wsL_law) := w0_C wq_29_15
theorem hd_X7_readsOrder : yX7_readsOrder.cls = RX7 ∧ yX7_readsOrder.cls ≠ "java/lang/invoke/MethodHandle" ∧ yX7_readsOrder.cls ≠ "java/lang/invoke/VarHandle" ∧ (parseMethodDescriptor yX7_readsOrder.desc).map (fun d => d.parameters.length) = some 0 := by decide +kernel
theorem hs_X7_readsOrder : yX7_readsOrder.cls ≠ "java/lang/invoke/MethodHandle" ∧ yX7_readsOrder.cls ≠ "java/lang/invoke/VarHandle" ∧ (parseMethodDescriptor yX7_readsOrder.desc).map (fun d => d.parameters.length) = some 0 := hd_X7_readsOrder.2
theorem gn_X7_readsOrder : GoodIn wsL_law (Cond.code yX7_readsOrder cX7_readsOrder 1 (some .boolean) :: wsL_law) := w0_C wq_28_21
theorem hd_X7_record : yX7_record.cls = RX7 ∧ yX7_record.cls ≠ "java/lang/invoke/MethodHandle" ∧ yX7_record.cls ≠ "java/lang/invoke/VarHandle" ∧ (parseMethodDescriptor yX7_record.desc).map (fun d => d.parameters.length) = some 0 := by decide +kernel
theorem hs_X7_record : yX7_record.cls ≠ "java/lang/invoke/MethodHandle" ∧ yX7_record.cls ≠ "java/lang/invoke/VarHandle" ∧ (parseMethodDescriptor yX7_record.desc).map (fun d => d.parameters.length) = some 0 := hd_X7_record.2
theorem gn_X7_record : GoodIn wsL_law (Cond.code yX7_record cX7_record 2 none :: wsL_law) := w0_C wq_8_5
theorem hd_X7_rounded : yX7_rounded.cls = RX7 ∧ yX7_rounded.cls ≠ "java/lang/invoke/MethodHandle" ∧ yX7_rounded.cls ≠ "java/lang/invoke/VarHandle" ∧ (parseMethodDescriptor yX7_rounded.desc).map (fun d => d.parameters.length) = some 2 := by decide +kernel
theorem hs_X7_rounded : yX7_rounded.cls ≠ "java/lang/invoke/MethodHandle" ∧ yX7_rounded.cls ≠ "java/lang/invoke/VarHandle" ∧ (parseMethodDescriptor yX7_rounded.desc).map (fun d => d.parameters.length) = some 2 := hd_X7_rounded.2
theorem gn_X7_rounded : GoodIn wsL_law (Cond.code yX7_rounded cX7_rounded 2 (some .int) :: wsL_law) := w0_C wq_10_9
theorem hd_X7_setPart : yX7_setPart.cls = RX7 ∧ yX7_setPart.cls ≠ "java/lang/invoke/MethodHandle" ∧ yX7_setPart.cls ≠ "java/lang/invoke/VarHandle" ∧ (parseMethodDescriptor yX7_setPart.desc).map (fun d => d.parameters.length) = some 3 := by decide +kernel
theorem hs_X7_setPart : yX7_setPart.cls ≠ "java/lang/invoke/MethodHandle" ∧ yX7_setPart.cls ≠ "java/lang/invoke/VarHandle" ∧ (parseMethodDescriptor yX7_setPart.desc).map (fun d => d.parameters.length) = some 3 := hd_X7_setPart.2
theorem gn_X7_setPart : GoodIn wsL_law (Cond.code yX7_setPart cX7_setPart 4 none :: wsL_law) := w0_C wq_9_1
theorem hd_X7_sets : yX7_sets.cls = RX7 ∧ yX7_sets.cls ≠ "java/lang/invoke/MethodHandle" ∧ yX7_sets.cls ≠ "java/lang/invoke/VarHandle" ∧ (parseMethodDescriptor yX7_sets.desc).map (fun d => d.parameters.length) = some 2 := by decide +kernel
theorem hs_X7_sets : yX7_sets.cls ≠ "java/lang/invoke/MethodHandle" ∧ yX7_sets.cls ≠ "java/lang/invoke/VarHandle" ∧ (parseMethodDescriptor yX7_sets.desc).map (fun d => d.parameters.length) = some 2 := hd_X7_sets.2
theorem gn_X7_sets : GoodIn wsL_law (Cond.code yX7_sets cX7_sets 4 (some .int) :: wsL_law) := w0_C wq_8_13
theorem hd_X7_size : yX7_size.cls = RX7 ∧ yX7_size.cls ≠ "java/lang/invoke/MethodHandle" ∧ yX7_size.cls ≠ "java/lang/invoke/VarHandle" ∧ (parseMethodDescriptor yX7_size.desc).map (fun d => d.parameters.length) = some 1 := by decide +kernel
theorem hs_X7_size : yX7_size.cls ≠ "java/lang/invoke/MethodHandle" ∧ yX7_size.cls ≠ "java/lang/invoke/VarHandle" ∧ (parseMethodDescriptor yX7_size.desc).map (fun d => d.parameters.length) = some 1 := hd_X7_size.2
theorem gn_X7_size : GoodIn wsL_law (Cond.code yX7_size cX7_size 1 (some .int) :: wsL_law) := w0_C wq_10_18
theorem hd_X7_takeDigit : yX7_takeDigit.cls = RX7 ∧ yX7_takeDigit.cls ≠ "java/lang/invoke/MethodHandle" ∧ yX7_takeDigit.cls ≠ "java/lang/invoke/VarHandle" ∧ (parseMethodDescriptor yX7_takeDigit.desc).map (fun d => d.parameters.length) = some 0 := by decide +kernel
theorem hs_X7_takeDigit : yX7_takeDigit.cls ≠ "java/lang/invoke/MethodHandle" ∧ yX7_takeDigit.cls ≠ "java/lang/invoke/VarHandle" ∧ (parseMethodDescriptor yX7_takeDigit.desc).map (fun d => d.parameters.length) = some 0 := hd_X7_takeDigit.2
theorem gn_X7_takeDigit : GoodIn wsL_law (Cond.code yX7_takeDigit cX7_takeDigit 2 (some .int) :: wsL_law) := w0_C wq_29_11
theorem hd_X7_takeNumber : yX7_takeNumber.cls = RX7 ∧ yX7_takeNumber.cls ≠ "java/lang/invoke/MethodHandle" ∧ yX7_takeNumber.cls ≠ "java/lang/invoke/VarHandle" ∧ (parseMethodDescriptor yX7_takeNumber.desc).map (fun d => d.parameters.length) = some 0 := by decide +kernel
theorem hs_X7_takeNumber : yX7_takeNumber.cls ≠ "java/lang/invoke/MethodHandle" ∧ yX7_takeNumber.cls ≠ "java/lang/invoke/VarHandle" ∧ (parseMethodDescriptor yX7_takeNumber.desc).map (fun d => d.parameters.length) = some 0 := hd_X7_takeNumber.2
theorem gn_X7_takeNumber : GoodIn wsL_law (Cond.code yX7_takeNumber cX7_takeNumber 2 (some .int) :: wsL_law) := w0_C wq_29_7
theorem hd_X7_tests : yX7_tests.cls = RX7 ∧ yX7_tests.cls ≠ "java/lang/invoke/MethodHandle" ∧ yX7_tests.cls ≠ "java/lang/invoke/VarHandle" ∧ (parseMethodDescriptor yX7_tests.desc).map (fun d => d.parameters.length) = some 2 := by decide +kernel
theorem hs_X7_tests : yX7_tests.cls ≠ "java/lang/invoke/MethodHandle" ∧ yX7_tests.cls ≠ "java/lang/invoke/VarHandle" ∧ (parseMethodDescriptor yX7_tests.desc).map (fun d => d.parameters.length) = some 2 := hd_X7_tests.2
theorem gn_X7_tests : GoodIn wsL_law (Cond.code yX7_tests cX7_tests 10 none :: wsL_law) := w0_C wq_19_5
theorem hd_X7_truth : yX7_truth.cls = RX7 ∧ yX7_truth.cls ≠ "java/lang/invoke/MethodHandle" ∧ yX7_truth.cls ≠ "java/lang/invoke/VarHandle" ∧ (parseMethodDescriptor yX7_truth.desc).map (fun d => d.parameters.length) = some 2 := by decide +kernel
theorem hs_X7_truth : yX7_truth.cls ≠ "java/lang/invoke/MethodHandle" ∧ yX7_truth.cls ≠ "java/lang/invoke/VarHandle" ∧ (parseMethodDescriptor yX7_truth.desc).map (fun d => d.parameters.length) = some 2 := hd_X7_truth.2
theorem gn_X7_truth : GoodIn wsL_law (Cond.code yX7_truth cX7_truth 3 (some .int) :: wsL_law) := w0_C wq_10_15
theorem hd_X7_voids : yX7_voids.cls = RX7 ∧ yX7_voids.cls ≠ "java/lang/invoke/MethodHandle" ∧ yX7_voids.cls ≠ "java/lang/invoke/VarHandle" ∧ (parseMethodDescriptor yX7_voids.desc).map (fun d => d.parameters.length) = some 1 := by decide +kernel
theorem hs_X7_voids : yX7_voids.cls ≠ "java/lang/invoke/MethodHandle" ∧ yX7_voids.cls ≠ "java/lang/invoke/VarHandle" ∧ (parseMethodDescriptor yX7_voids.desc).map (fun d => d.parameters.length) = some 1 := hd_X7_voids.2
theorem gn_X7_voids : GoodIn wsL_law (Cond.code yX7_voids cX7_voids 3 none :: wsL_law) := w0_C wq_8_21
theorem hd_X7_voidsAll : yX7_voidsAll.cls = RX7 ∧ yX7_voidsAll.cls ≠ "java/lang/invoke/MethodHandle" ∧ yX7_voidsAll.cls ≠ "java/lang/invoke/VarHandle" ∧ (parseMethodDescriptor yX7_voidsAll.desc).map (fun d => d.parameters.length) = some 0 := by decide +kernel
theorem hs_X7_voidsAll : yX7_voidsAll.cls ≠ "java/lang/invoke/MethodHandle" ∧ yX7_voidsAll.cls ≠ "java/lang/invoke/VarHandle" ∧ (parseMethodDescriptor yX7_voidsAll.desc).map (fun d => d.parameters.length) = some 0 := hd_X7_voidsAll.2
theorem gn_X7_voidsAll : GoodIn wsL_law (Cond.code yX7_voidsAll cX7_voidsAll 2 none :: wsL_law) := w0_C wq_8_17
theorem hd_X7_weightOf : yX7_weightOf.cls = RX7 ∧ yX7_weightOf.cls ≠ "java/lang/invoke/MethodHandle" ∧ yX7_weightOf.cls ≠ "java/lang/invoke/VarHandle" ∧ (parseMethodDescriptor yX7_weightOf.desc).map (fun d => d.parameters.length) = some 2 := by decide +kernel
theorem hs_X7_weightOf : yX7_weightOf.cls ≠ "java/lang/invoke/MethodHandle" ∧ yX7_weightOf.cls ≠ "java/lang/invoke/VarHandle" ∧ (parseMethodDescriptor yX7_weightOf.desc).map (fun d => d.parameters.length) = some 2 := hd_X7_weightOf.2
theorem gn_X7_weightOf : GoodIn wsL_law (Cond.code yX7_weightOf cX7_weightOf 3 (some .int) :: wsL_law) := w0_C wq_10_5
theorem hd_X7_whyNoGauge : yX7_whyNoGauge.cls = RX7 ∧ yX7_whyNoGauge.cls ≠ "java/lang/invoke/MethodHandle" ∧ yX7_whyNoGauge.cls ≠ "java/lang/invoke/VarHandle" ∧ (parseMethodDescriptor yX7_whyNoGauge.desc).map (fun d => d.parameters.length) = some 3 := by decide +kernel
theorem hs_X7_whyNoGauge : yX7_whyNoGauge.cls ≠ "java/lang/invoke/MethodHandle" ∧ yX7_whyNoGauge.cls ≠ "java/lang/invoke/VarHandle" ∧ (parseMethodDescriptor yX7_whyNoGauge.desc).map (fun d => d.parameters.length) = some 3 := hd_X7_whyNoGauge.2
theorem gn_X7_whyNoGauge : GoodIn wsL_law (Cond.code yX7_whyNoGauge cX7_whyNoGauge 4 (some .int) :: wsL_law) := w0_C wq_14_22
theorem hd_X7_whyNoRing : yX7_whyNoRing.cls = RX7 ∧ yX7_whyNoRing.cls ≠ "java/lang/invoke/MethodHandle" ∧ yX7_whyNoRing.cls ≠ "java/lang/invoke/VarHandle" ∧ (parseMethodDescriptor yX7_whyNoRing.desc).map (fun d => d.parameters.length) = some 1 := by decide +kernel
theorem hs_X7_whyNoRing : yX7_whyNoRing.cls ≠ "java/lang/invoke/MethodHandle" ∧ yX7_whyNoRing.cls ≠ "java/lang/invoke/VarHandle" ∧ (parseMethodDescriptor yX7_whyNoRing.desc).map (fun d => d.parameters.length) = some 1 := hd_X7_whyNoRing.2
theorem gn_X7_whyNoRing : GoodIn wsL_law (Cond.code yX7_whyNoRing cX7_whyNoRing 2 (some .int) :: wsL_law) := w0_C wq_11_10
theorem hd_X7_whyNotCertified : yX7_whyNotCertified.cls = RX7 ∧ yX7_whyNotCertified.cls ≠ "java/lang/invoke/MethodHandle" ∧ yX7_whyNotCertified.cls ≠ "java/lang/invoke/VarHandle" ∧ (parseMethodDescriptor yX7_whyNotCertified.desc).map (fun d => d.parameters.length) = some 1 := by decide +kernel
theorem hs_X7_whyNotCertified : yX7_whyNotCertified.cls ≠ "java/lang/invoke/MethodHandle" ∧ yX7_whyNotCertified.cls ≠ "java/lang/invoke/VarHandle" ∧ (parseMethodDescriptor yX7_whyNotCertified.desc).map (fun d => d.parameters.length) = some 1 := hd_X7_whyNotCertified.2
theorem gn_X7_whyNotCertified : GoodIn wsL_law (Cond.code yX7_whyNotCertified cX7_whyNotCertified 2 (some .int) :: wsL_law) := w0_C wq_18_20
theorem hd_X7_whyNotDone : yX7_whyNotDone.cls = RX7 ∧ yX7_whyNotDone.cls ≠ "java/lang/invoke/MethodHandle" ∧ yX7_whyNotDone.cls ≠ "java/lang/invoke/VarHandle" ∧ (parseMethodDescriptor yX7_whyNotDone.desc).map (fun d => d.parameters.length) = some 0 := by decide +kernel
theorem hs_X7_whyNotDone : yX7_whyNotDone.cls ≠ "java/lang/invoke/MethodHandle" ∧ yX7_whyNotDone.cls ≠ "java/lang/invoke/VarHandle" ∧ (parseMethodDescriptor yX7_whyNotDone.desc).map (fun d => d.parameters.length) = some 0 := hd_X7_whyNotDone.2
theorem gn_X7_whyNotDone : GoodIn wsL_law (Cond.code yX7_whyNotDone cX7_whyNotDone 1 (some .int) :: wsL_law) := w0_C wq_30_17
theorem hd_X7_whyNotMoved : yX7_whyNotMoved.cls = RX7 ∧ yX7_whyNotMoved.cls ≠ "java/lang/invoke/MethodHandle" ∧ yX7_whyNotMoved.cls ≠ "java/lang/invoke/VarHandle" ∧ (parseMethodDescriptor yX7_whyNotMoved.desc).map (fun d => d.parameters.length) = some 2 := by decide +kernel
theorem hs_X7_whyNotMoved : yX7_whyNotMoved.cls ≠ "java/lang/invoke/MethodHandle" ∧ yX7_whyNotMoved.cls ≠ "java/lang/invoke/VarHandle" ∧ (parseMethodDescriptor yX7_whyNotMoved.desc).map (fun d => d.parameters.length) = some 2 := hd_X7_whyNotMoved.2
theorem gn_X7_whyNotMoved : GoodIn wsL_law (Cond.code yX7_whyNotMoved cX7_whyNotMoved 3 (some .int) :: wsL_law) := w0_C wq_13_2
theorem hd_X7_within : yX7_within.cls = RX7 ∧ yX7_within.cls ≠ "java/lang/invoke/MethodHandle" ∧ yX7_within.cls ≠ "java/lang/invoke/VarHandle" ∧ (parseMethodDescriptor yX7_within.desc).map (fun d => d.parameters.length) = some 3 := by decide +kernel
theorem hs_X7_within : yX7_within.cls ≠ "java/lang/invoke/MethodHandle" ∧ yX7_within.cls ≠ "java/lang/invoke/VarHandle" ∧ (parseMethodDescriptor yX7_within.desc).map (fun d => d.parameters.length) = some 3 := hd_X7_within.2
theorem gn_X7_within : GoodIn wsL_law (Cond.code yX7_within cX7_within 3 (some .boolean) :: wsL_law) := w0_C wq_8_1
theorem gv0_17 : GoodIn wsL_law (va_wsS RX0 17 yJ7_copyOf_59c91 (Cond.code yJ7_copyOf_59c91 cJ7_copyOf_59c91 3 (some (.array .int)) :: wsL_law)) := w0_S wq_18_5 wq_18_6 wq_18_7 wq_18_8
theorem gv1_41 : GoodIn wsL_law (wsV RX1 41 RX1 yX1_shown (Cond.code yX1_shown cX1_shown 1 (some .int) :: wsL_law)) := w0_V wq_20_17 wq_17_16 wq_17_17 wq_2_22 wq_17_18
theorem gv2_22 : GoodIn wsL_law (wsV RX2 22 RX4 yX4_copyFrom (Cond.code yX4_copyFrom cX4_copyFrom 3 none :: wsL_law)) := w0_V wq_4_19 wq_4_20 wq_4_21 wq_1_15 wq_4_22
theorem gv3_19 : GoodIn wsL_law (va_wsS RX3 19 yX3_howMany (Cond.code yX3_howMany cX3_howMany 5 (some .int) :: wsL_law)) := w0_S wq_25_18 wq_25_19 wq_2_4 wq_25_20
theorem gv3_33 : GoodIn wsL_law (wsV RX3 33 RX3 yX3_rewind (Cond.code yX3_rewind cX3_rewind 1 none :: wsL_law)) := w0_V wq_27_1 wq_27_2 wq_27_3 wq_2_4 wq_27_4
theorem gv3_36 : GoodIn wsL_law (wsV RX3 36 RX3 yX3_nextOrder (Cond.code yX3_nextOrder cX3_nextOrder 1 (some .boolean) :: wsL_law)) := w0_V wq_27_5 wq_27_6 wq_27_7 wq_2_4 wq_27_8
theorem gv3_43 : GoodIn wsL_law (wsV RX3 43 RX3 yX3_pass (Cond.code yX3_pass cX3_pass 2 (some .boolean) :: wsL_law)) := w0_V wq_27_10 wq_27_11 wq_27_12 wq_2_4 wq_27_13
theorem gv3_47 : GoodIn wsL_law (wsV RX3 47 RX3 yX3_signAt (Cond.code yX3_signAt cX3_signAt 2 (some .int) :: wsL_law)) := w0_V wq_27_14 wq_27_15 wq_27_16 wq_2_4 wq_27_17
theorem gv3_54 : GoodIn wsL_law (wsV RX3 54 RX3 yX3_readNumber (Cond.code yX3_readNumber cX3_readNumber 4 (some .boolean) :: wsL_law)) := w0_V wq_27_18 wq_27_19 wq_27_20 wq_2_4 wq_27_21
theorem gv3_57 : GoodIn wsL_law (wsV RX3 57 RX3 yX3_readDigit (Cond.code yX3_readDigit cX3_readDigit 2 (some .boolean) :: wsL_law)) := w0_V wq_28_1 wq_28_2 wq_28_3 wq_2_4 wq_28_4
theorem gv3_60 : GoodIn wsL_law (wsV RX3 60 RX3 yX3_readValue (Cond.code yX3_readValue cX3_readValue 2 (some .boolean) :: wsL_law)) := w0_V wq_28_5 wq_28_6 wq_28_7 wq_2_4 wq_28_8
theorem gv3_63 : GoodIn wsL_law (va_wsS RX3 63 yX3_isDigit (Cond.code yX3_isDigit cX3_isDigit 1 (some .boolean) :: wsL_law)) := w0_S wq_27_22 wq_27_23 wq_2_4 wq_28_0
theorem gv4_101 : GoodIn wsL_law (wsV RX4 101 RX5 yX5_run (Cond.code yX5_run cX5_run 6 none :: wsL_law)) := w0_V wq_17_4 wq_17_5 wq_17_6 wq_2_0 wq_17_7
theorem gv4_120 : GoodIn wsL_law (wsV RX4 120 RX4 yX4_massOf (Cond.code yX4_massOf cX4_massOf 4 (some .int) :: wsL_law)) := w0_V wq_6_8 wq_6_9 wq_6_10 wq_1_15 wq_6_11
theorem gv4_124 : GoodIn wsL_law (wsV RX4 124 RX4 yX4_pressureOf (Cond.code yX4_pressureOf cX4_pressureOf 3 (some .int) :: wsL_law)) := w0_V wq_6_12 wq_6_13 wq_6_14 wq_1_15 wq_6_15
theorem gv4_133 : GoodIn wsL_law (va_wsS RX4 133 yJ6_bitCount_0f7a4 (Cond.code yJ6_bitCount_0f7a4 cJ6_bitCount_0f7a4 1 (some .int) :: wsL_law)) := w0_S wq_23_5 wq_23_6 wq_23_7 wq_23_8
theorem gv4_138 : GoodIn wsL_law (wsV RX4 138 RX4 yX4_massToNext (Cond.code yX4_massToNext cX4_massToNext 4 (some .int) :: wsL_law)) := w0_V wq_23_12 wq_23_13 wq_23_14 wq_1_15 wq_23_15
theorem gv4_39 : GoodIn wsL_law (wsV RX4 39 RX1 yX1_copyFrom (Cond.code yX1_copyFrom cX1_copyFrom 2 none :: wsL_law)) := w0_V wq_5_6 wq_5_7 wq_5_8 wq_2_22 wq_5_9
theorem gv4_59 : GoodIn wsL_law (wsV RX4 59 RX4 yX4_voidCertificates (Cond.code yX4_voidCertificates cX4_voidCertificates 2 none :: wsL_law)) := w0_V wq_5_19 wq_5_20 wq_5_21 wq_1_15 wq_5_22
theorem gv4_62 : GoodIn wsL_law (wsV RX4 62 RX4 yX4_moveHands (Cond.code yX4_moveHands cX4_moveHands 3 (some .int) :: wsL_law)) := w0_V wq_6_0 wq_6_1 wq_6_2 wq_1_15 wq_6_3
theorem gv4_66 : GoodIn wsL_law (wsV RX4 66 RX4 yX4_hasRing (Cond.code yX4_hasRing cX4_hasRing 2 (some .boolean) :: wsL_law)) := w0_V wq_12_11 wq_12_12 wq_12_13 wq_1_15 wq_12_14
theorem gv4_70 : GoodIn wsL_law (wsV RX4 70 RX4 yX4_isStacked (Cond.code yX4_isStacked cX4_isStacked 2 (some .boolean) :: wsL_law)) := w0_V wq_12_15 wq_12_16 wq_12_17 wq_1_15 wq_12_18
theorem gv4_73 : GoodIn wsL_law (wsV RX4 73 RX1 yX1_begin (Cond.code yX1_begin cX1_begin 4 none :: wsL_law)) := w0_V wq_14_11 wq_14_12 wq_14_13 wq_2_22 wq_14_14
theorem gv4_77 : GoodIn wsL_law (wsV RX4 77 RX4 yX4_columnPressure (Cond.code yX4_columnPressure cX4_columnPressure 1 (some .int) :: wsL_law)) := w0_V wq_6_4 wq_6_5 wq_6_6 wq_1_15 wq_6_7
theorem gv4_80 : GoodIn wsL_law (wsV RX4 80 RX1 yX1_follow (Cond.code yX1_follow cX1_follow 4 none :: wsL_law)) := w0_V wq_7_0 wq_7_1 wq_7_2 wq_2_22 wq_7_3
theorem gv4_84 : GoodIn wsL_law (wsV RX4 84 RX4 yX4_gaugeAt (Cond.code yX4_gaugeAt cX4_gaugeAt 2 (some (.object "GaugeColumns$Gauge")) :: wsL_law)) := w0_V wq_15_15 wq_15_16 wq_15_17 wq_1_15 wq_15_18
theorem gv4_95 : GoodIn wsL_law (wsV RX4 95 RX5 yX5_prepare (Cond.code yX5_prepare cX5_prepare 5 none :: wsL_law)) := w0_V wq_16_15 wq_16_16 wq_16_17 wq_2_0 wq_16_18
theorem gv5_34 : GoodIn wsL_law (wsV RX5 34 RX4 yX4_placeOf (Cond.code yX4_placeOf cX4_placeOf 4 (some .int) :: wsL_law)) := w0_V wq_16_23 wq_17_0 wq_17_1 wq_1_15 wq_17_2
theorem gv5_44 : GoodIn wsL_law (wsV RX5 44 RX4 yX4_pressureOf (Cond.code yX4_pressureOf cX4_pressureOf 3 (some .int) :: wsL_law)) := w0_V wq_17_3 wq_6_13 wq_6_14 wq_1_15 wq_6_15
theorem gv5_57 : GoodIn wsL_law (wsV RX5 57 RX1 yX1_begin (Cond.code yX1_begin cX1_begin 4 none :: wsL_law)) := w0_V wq_17_13 wq_14_12 wq_14_13 wq_2_22 wq_14_14
theorem gv5_67 : GoodIn wsL_law (wsV RX5 67 RX1 yX1_follow (Cond.code yX1_follow cX1_follow 4 none :: wsL_law)) := w0_V wq_17_14 wq_7_1 wq_7_2 wq_2_22 wq_7_3
theorem gv5_71 : GoodIn wsL_law (wsV RX5 71 RX1 yX1_shown (Cond.code yX1_shown cX1_shown 1 (some .int) :: wsL_law)) := w0_V wq_17_15 wq_17_16 wq_17_17 wq_2_22 wq_17_18
theorem gv6_119 : GoodIn wsL_law (wsV RX6 119 RX4 yX4_massOf (Cond.code yX4_massOf cX4_massOf 4 (some .int) :: wsL_law)) := w0_V wq_21_18 wq_6_9 wq_6_10 wq_1_15 wq_6_11
theorem gv6_125 : GoodIn wsL_law (va_wsS RX6 125 yX6_weightOf (Cond.code yX6_weightOf cX6_weightOf 2 (some .int) :: wsL_law)) := w0_S wq_21_19 wq_6_16 wq_1_2 wq_6_17
theorem gv6_128 : GoodIn wsL_law (wsV RX6 128 RX4 yX4_columnPressure (Cond.code yX4_columnPressure cX4_columnPressure 1 (some .int) :: wsL_law)) := w0_V wq_21_20 wq_6_5 wq_6_6 wq_1_15 wq_6_7
theorem gv6_131 : GoodIn wsL_law (wsV RX6 131 RX4 yX4_countCertificates (Cond.code yX4_countCertificates cX4_countCertificates 3 (some .int) :: wsL_law)) := w0_V wq_21_21 wq_21_22 wq_21_23 wq_1_15 wq_22_0
theorem gv6_140 : GoodIn wsL_law (wsV RX6 140 RX4 yX4_pressureOf (Cond.code yX4_pressureOf cX4_pressureOf 3 (some .int) :: wsL_law)) := w0_V wq_22_14 wq_6_13 wq_6_14 wq_1_15 wq_6_15
theorem gv6_143 : GoodIn wsL_law (wsV RX6 143 RX4 yX4_nearestTo (Cond.code yX4_nearestTo cX4_nearestTo 7 (some .int) :: wsL_law)) := w0_V wq_22_23 wq_23_0 wq_23_1 wq_1_15 wq_23_2
theorem gv6_146 : GoodIn wsL_law (wsV RX6 146 RX5 yX5_prepare (Cond.code yX5_prepare cX5_prepare 5 none :: wsL_law)) := w0_V wq_24_7 wq_16_16 wq_16_17 wq_2_0 wq_16_18
theorem gv6_152 : GoodIn wsL_law (wsV RX6 152 RX5 yX5_run (Cond.code yX5_run cX5_run 6 none :: wsL_law)) := w0_V wq_24_8 wq_17_5 wq_17_6 wq_2_0 wq_17_7
theorem gv6_170 : GoodIn wsL_law (wsV RX6 170 RX3 yX3_append (Cond.code yX3_append cX3_append 5 (some .int) :: wsL_law)) := w0_V wq_25_12 wq_25_13 wq_25_14 wq_2_4 wq_25_15
theorem gv6_174 : GoodIn wsL_law (wsV RX6 174 RX3 yX3_clear (Cond.code yX3_clear cX3_clear 2 (some .int) :: wsL_law)) := w0_V wq_26_8 wq_26_9 wq_26_10 wq_2_4 wq_26_11
theorem gv6_177 : GoodIn wsL_law (wsV RX6 177 RX3 yX3_findFault (Cond.code yX3_findFault cX3_findFault 3 (some .int) :: wsL_law)) := w0_V wq_26_20 wq_26_21 wq_26_22 wq_2_4 wq_26_23
theorem gv6_180 : GoodIn wsL_law (wsV RX6 180 RX3 yX3_rewind (Cond.code yX3_rewind cX3_rewind 1 none :: wsL_law)) := w0_V wq_30_2 wq_27_2 wq_27_3 wq_2_4 wq_27_4
theorem gv6_183 : GoodIn wsL_law (wsV RX6 183 RX3 yX3_nextOrder (Cond.code yX3_nextOrder cX3_nextOrder 1 (some .boolean) :: wsL_law)) := w0_V wq_30_3 wq_27_6 wq_27_7 wq_2_4 wq_27_8
theorem gv6_187 : GoodIn wsL_law (wsV RX6 187 RX6 yX6_carryOutOrder (Cond.code yX6_carryOutOrder cX6_carryOutOrder 2 (some .int) :: wsL_law)) := w0_V wq_30_4 wq_30_5 wq_30_6 wq_1_2 wq_30_7
theorem gv6_196 : GoodIn wsL_law (wsV RX6 196 RX2 yX2_stepBack (Cond.code yX2_stepBack cX2_stepBack 2 (some .int) :: wsL_law)) := w0_V wq_31_2 wq_31_3 wq_31_4 wq_1_19 wq_31_5
theorem gv6_200 : GoodIn wsL_law (wsV RX6 200 RX4 yX4_copyFrom (Cond.code yX4_copyFrom cX4_copyFrom 3 none :: wsL_law)) := w0_V wq_31_14 wq_4_20 wq_4_21 wq_1_15 wq_4_22
theorem gv6_204 : GoodIn wsL_law (va_wsS RX6 204 yX6_dividedRounded (Cond.code yX6_dividedRounded cX6_dividedRounded 2 (some .int) :: wsL_law)) := w0_S wq_6_19 wq_6_20 wq_1_2 wq_6_21
theorem gv6_41 : GoodIn wsL_law (wsV RX6 41 RX2 yX2_remember (Cond.code yX2_remember cX2_remember 2 none :: wsL_law)) := w0_V wq_4_14 wq_4_15 wq_4_16 wq_1_19 wq_4_17
theorem gv6_45 : GoodIn wsL_law (wsV RX6 45 RX4 yX4_change (Cond.code yX4_change cX4_change 4 (some .int) :: wsL_law)) := w0_V wq_5_15 wq_5_16 wq_5_17 wq_1_15 wq_5_18
theorem gv6_49 : GoodIn wsL_law (wsV RX6 49 RX2 yX2_settle (Cond.code yX2_settle cX2_settle 2 (some .int) :: wsL_law)) := w0_V wq_7_8 wq_7_9 wq_7_10 wq_1_19 wq_7_11
theorem gv6_53 : GoodIn wsL_law (wsV RX6 53 RX4 yX4_addRing (Cond.code yX4_addRing cX4_addRing 2 (some .int) :: wsL_law)) := w0_V wq_10_23 wq_11_0 wq_11_1 wq_1_15 wq_11_2
theorem gv6_56 : GoodIn wsL_law (wsV RX6 56 RX4 yX4_dropRing (Cond.code yX4_dropRing cX4_dropRing 1 (some .int) :: wsL_law)) := w0_V wq_11_19 wq_11_20 wq_11_21 wq_1_15 wq_11_22
theorem gv6_60 : GoodIn wsL_law (wsV RX6 60 RX4 yX4_putOn (Cond.code yX4_putOn cX4_putOn 2 (some .int) :: wsL_law)) := w0_V wq_12_7 wq_12_8 wq_12_9 wq_1_15 wq_12_10
theorem gv6_63 : GoodIn wsL_law (wsV RX6 63 RX4 yX4_takeOff (Cond.code yX4_takeOff cX4_takeOff 2 (some .int) :: wsL_law)) := w0_V wq_13_19 wq_13_20 wq_13_21 wq_1_15 wq_13_22
theorem gv6_66 : GoodIn wsL_law (wsV RX6 66 RX4 yX4_addGauge (Cond.code yX4_addGauge cX4_addGauge 4 (some .int) :: wsL_law)) := w0_V wq_14_7 wq_14_8 wq_14_9 wq_1_15 wq_14_10
theorem gv6_70 : GoodIn wsL_law (wsV RX6 70 RX4 yX4_adjust (Cond.code yX4_adjust cX4_adjust 5 (some .int) :: wsL_law)) := w0_V wq_15_10 wq_15_11 wq_15_12 wq_1_15 wq_15_13
theorem gv6_73 : GoodIn wsL_law (wsV RX6 73 RX4 yX4_certifyBy (Cond.code yX4_certifyBy cX4_certifyBy 4 (some .int) :: wsL_law)) := w0_V wq_16_7 wq_16_8 wq_16_9 wq_1_15 wq_16_10
theorem gv6_77 : GoodIn wsL_law (wsV RX6 77 RX4 yX4_hasRing (Cond.code yX4_hasRing cX4_hasRing 2 (some .boolean) :: wsL_law)) := w0_V wq_19_19 wq_12_12 wq_12_13 wq_1_15 wq_12_14
theorem gv6_85 : GoodIn wsL_law (wsV RX6 85 RX4 yX4_isStacked (Cond.code yX4_isStacked cX4_isStacked 2 (some .boolean) :: wsL_law)) := w0_V wq_19_20 wq_12_16 wq_12_17 wq_1_15 wq_12_18
theorem gv6_88 : GoodIn wsL_law (wsV RX6 88 RX4 yX4_placeOf (Cond.code yX4_placeOf cX4_placeOf 4 (some .int) :: wsL_law)) := w0_V wq_19_21 wq_17_0 wq_17_1 wq_1_15 wq_17_2
theorem gv6_91 : GoodIn wsL_law (wsV RX6 91 RX4 yX4_gaugeAt (Cond.code yX4_gaugeAt cX4_gaugeAt 2 (some (.object "GaugeColumns$Gauge")) :: wsL_law)) := w0_V wq_20_10 wq_15_16 wq_15_17 wq_1_15 wq_15_18
theorem gv6_95 : GoodIn wsL_law (wsV RX6 95 RX1 yX1_tell (Cond.code yX1_tell cX1_tell 2 (some .int) :: wsL_law)) := w0_V wq_20_11 wq_20_12 wq_20_13 wq_2_22 wq_20_14
theorem gv7_100 : GoodIn wsL_law (wsV RX7 100 RX7 yX7_handsGo (Cond.code yX7_handsGo cX7_handsGo 2 none :: wsL_law)) := w0_V wq_9_2 wq_9_3 wq_9_4 wq_1_5 wq_9_5
theorem gv7_103 : GoodIn wsL_law (va_wsS RX7 103 yX7_isValue (Cond.code yX7_isValue cX7_isValue 2 (some .boolean) :: wsL_law)) := w0_S wq_7_20 wq_7_21 wq_1_5 wq_7_22
theorem gv7_107 : GoodIn wsL_law (wsV RX7 107 RX7 yX7_record (Cond.code yX7_record cX7_record 2 none :: wsL_law)) := w0_V wq_8_2 wq_8_3 wq_8_4 wq_1_5 wq_8_5
theorem gv7_110 : GoodIn wsL_law (wsV RX7 110 RX7 yX7_sets (Cond.code yX7_sets cX7_sets 4 (some .int) :: wsL_law)) := w0_V wq_8_10 wq_8_11 wq_8_12 wq_1_5 wq_8_13
theorem gv7_113 : GoodIn wsL_law (wsV RX7 113 RX7 yX7_whyNoRing (Cond.code yX7_whyNoRing cX7_whyNoRing 2 (some .int) :: wsL_law)) := w0_V wq_11_7 wq_11_8 wq_11_9 wq_1_5 wq_11_10
theorem gv7_116 : GoodIn wsL_law (wsV RX7 116 RX7 yX7_comes (Cond.code yX7_comes cX7_comes 2 (some .int) :: wsL_law)) := w0_V wq_11_11 wq_11_12 wq_11_13 wq_1_5 wq_11_14
theorem gv7_119 : GoodIn wsL_law (wsV RX7 119 RX7 yX7_isRing (Cond.code yX7_isRing cX7_isRing 2 (some .boolean) :: wsL_law)) := w0_V wq_13_3 wq_13_4 wq_13_5 wq_1_5 wq_13_6
theorem gv7_123 : GoodIn wsL_law (wsV RX7 123 RX7 yX7_isStacked (Cond.code yX7_isStacked cX7_isStacked 2 (some .boolean) :: wsL_law)) := w0_V wq_13_7 wq_13_8 wq_13_9 wq_1_5 wq_13_10
theorem gv7_126 : GoodIn wsL_law (wsV RX7 126 RX7 yX7_whyNotMoved (Cond.code yX7_whyNotMoved cX7_whyNotMoved 3 (some .int) :: wsL_law)) := w0_V wq_12_23 wq_13_0 wq_13_1 wq_1_5 wq_13_2
theorem gv7_130 : GoodIn wsL_law (wsV RX7 130 RX7 yX7_isMoved (Cond.code yX7_isMoved cX7_isMoved 2 (some .int) :: wsL_law)) := w0_V wq_13_11 wq_13_12 wq_13_13 wq_1_5 wq_13_14
theorem gv7_133 : GoodIn wsL_law (va_wsS RX7 133 yX7_isError (Cond.code yX7_isError cX7_isError 1 (some .boolean) :: wsL_law)) := w0_S wq_14_23 wq_15_0 wq_1_5 wq_15_1
theorem gv7_136 : GoodIn wsL_law (wsV RX7 136 RX7 yX7_whyNoGauge (Cond.code yX7_whyNoGauge cX7_whyNoGauge 4 (some .int) :: wsL_law)) := w0_V wq_14_19 wq_14_20 wq_14_21 wq_1_5 wq_14_22
theorem gv7_140 : GoodIn wsL_law (wsV RX7 140 RX7 yX7_comesGauge (Cond.code yX7_comesGauge cX7_comesGauge 6 (some .int) :: wsL_law)) := w0_V wq_15_2 wq_15_3 wq_15_4 wq_1_5 wq_15_5
theorem gv7_143 : GoodIn wsL_law (wsV RX7 143 RX7 yX7_isGauge (Cond.code yX7_isGauge cX7_isGauge 2 (some .boolean) :: wsL_law)) := w0_V wq_15_23 wq_16_0 wq_16_1 wq_1_5 wq_16_2
theorem gv7_146 : GoodIn wsL_law (wsV RX7 146 RX7 yX7_tests (Cond.code yX7_tests cX7_tests 10 none :: wsL_law)) := w0_V wq_19_2 wq_19_3 wq_19_4 wq_1_5 wq_19_5
theorem gv7_150 : GoodIn wsL_law (wsV RX7 150 RX7 yX7_whyNotCertified (Cond.code yX7_whyNotCertified cX7_whyNotCertified 2 (some .int) :: wsL_law)) := w0_V wq_18_17 wq_18_18 wq_18_19 wq_1_5 wq_18_20
theorem gv7_153 : GoodIn wsL_law (wsV RX7 153 RX7 yX7_certifies (Cond.code yX7_certifies cX7_certifies 3 (some .int) :: wsL_law)) := w0_V wq_18_21 wq_18_22 wq_18_23 wq_1_5 wq_19_0
theorem gv7_156 : GoodIn wsL_law (wsV RX7 156 RX7 yX7_placeOf (Cond.code yX7_placeOf cX7_placeOf 4 (some .int) :: wsL_law)) := w0_V wq_20_2 wq_20_3 wq_20_4 wq_1_5 wq_20_5
theorem gv7_159 : GoodIn wsL_law (wsV RX7 159 RX7 yX7_certificates (Cond.code yX7_certificates cX7_certificates 3 (some .int) :: wsL_law)) := w0_V wq_22_6 wq_22_7 wq_22_8 wq_1_5 wq_22_9
theorem gv7_166 : GoodIn wsL_law (va_wsS RX7 166 yX7_bits (Cond.code yX7_bits cX7_bits 3 (some .int) :: wsL_law)) := w0_S wq_23_20 wq_23_21 wq_1_5 wq_23_22
theorem gv7_174 : GoodIn wsL_law (wsV RX7 174 RX7 yX7_character (Cond.code yX7_character cX7_character 2 (some .int) :: wsL_law)) := w0_V wq_29_0 wq_29_1 wq_29_2 wq_1_5 wq_29_3
theorem gv7_177 : GoodIn wsL_law (wsV RX7 177 RX7 yX7_takeDigit (Cond.code yX7_takeDigit cX7_takeDigit 2 (some .int) :: wsL_law)) := w0_V wq_29_8 wq_29_9 wq_29_10 wq_1_5 wq_29_11
theorem gv7_180 : GoodIn wsL_law (wsV RX7 180 RX7 yX7_isNext (Cond.code yX7_isNext cX7_isNext 3 (some .boolean) :: wsL_law)) := w0_V wq_29_18 wq_29_19 wq_29_20 wq_1_5 wq_29_21
theorem gv7_183 : GoodIn wsL_law (wsV RX7 183 RX7 yX7_takeNumber (Cond.code yX7_takeNumber cX7_takeNumber 2 (some .int) :: wsL_law)) := w0_V wq_29_4 wq_29_5 wq_29_6 wq_1_5 wq_29_7
theorem gv7_198 : GoodIn wsL_law (wsV RX7 198 RX7 yX7_readsGauge (Cond.code yX7_readsGauge cX7_readsGauge 3 (some .boolean) :: wsL_law)) := w0_V wq_29_12 wq_29_13 wq_29_14 wq_1_5 wq_29_15
theorem gv7_202 : GoodIn wsL_law (wsV RX7 202 RX7 yX7_readsOrder (Cond.code yX7_readsOrder cX7_readsOrder 1 (some .boolean) :: wsL_law)) := w0_V wq_28_18 wq_28_19 wq_28_20 wq_1_5 wq_28_21
theorem gv7_205 : GoodIn wsL_law (wsV RX7 205 RX7 yX7_findFault (Cond.code yX7_findFault cX7_findFault 1 (some .int) :: wsL_law)) := w0_V wq_28_13 wq_28_14 wq_28_15 wq_1_5 wq_28_16
theorem gv7_208 : GoodIn wsL_law (wsV RX7 208 RX7 yX7_whyNotDone (Cond.code yX7_whyNotDone cX7_whyNotDone 1 (some .int) :: wsL_law)) := w0_V wq_30_14 wq_30_15 wq_30_16 wq_1_5 wq_30_17
theorem gv7_211 : GoodIn wsL_law (wsV RX7 211 RX7 yX7_does (Cond.code yX7_does cX7_does 1 none :: wsL_law)) := w0_V wq_30_18 wq_30_19 wq_30_20 wq_1_5 wq_30_21
theorem gv7_35 : GoodIn wsL_law (va_wsS RX7 35 yX7_moves (Cond.code yX7_moves cX7_moves 5 none :: wsL_law)) := w0_S wq_8_7 wq_8_8 wq_1_5 wq_8_9
theorem gv7_39 : GoodIn wsL_law (va_wsS RX7 39 yX7_within (Cond.code yX7_within cX7_within 3 (some .boolean) :: wsL_law)) := w0_S wq_7_23 wq_8_0 wq_1_5 wq_8_1
theorem gv7_44 : GoodIn wsL_law (va_wsS RX7 44 yX7_rounded (Cond.code yX7_rounded cX7_rounded 2 (some .int) :: wsL_law)) := w0_S wq_10_7 wq_10_8 wq_1_5 wq_10_9
theorem gv7_48 : GoodIn wsL_law (wsV RX7 48 RX7 yX7_weightOf (Cond.code yX7_weightOf cX7_weightOf 3 (some .int) :: wsL_law)) := w0_V wq_10_2 wq_10_3 wq_10_4 wq_1_5 wq_10_5
theorem gv7_51 : GoodIn wsL_law (wsV RX7 51 RX7 yX7_massOf (Cond.code yX7_massOf cX7_massOf 4 (some .int) :: wsL_law)) := w0_V wq_9_18 wq_9_19 wq_9_20 wq_1_5 wq_9_21
theorem gv7_55 : GoodIn wsL_law (wsV RX7 55 RX7 yX7_pressureBy (Cond.code yX7_pressureBy cX7_pressureBy 3 (some .int) :: wsL_law)) := w0_V wq_9_22 wq_9_23 wq_10_0 wq_1_5 wq_10_1
theorem gv7_58 : GoodIn wsL_law (va_wsS RX7 58 yX7_size (Cond.code yX7_size cX7_size 1 (some .int) :: wsL_law)) := w0_S wq_10_16 wq_10_17 wq_1_5 wq_10_18
theorem gv7_61 : GoodIn wsL_law (va_wsS RX7 61 yX7_truth (Cond.code yX7_truth cX7_truth 3 (some .int) :: wsL_law)) := w0_S wq_10_13 wq_10_14 wq_1_5 wq_10_15
theorem gv7_64 : GoodIn wsL_law (wsV RX7 64 RX7 yX7_part (Cond.code yX7_part cX7_part 3 (some .int) :: wsL_law)) := w0_V wq_9_10 wq_9_11 wq_9_12 wq_1_5 wq_9_13
theorem gv7_67 : GoodIn wsL_law (wsV RX7 67 RX7 yX7_pressureOf (Cond.code yX7_pressureOf cX7_pressureOf 2 (some .int) :: wsL_law)) := w0_V wq_9_14 wq_9_15 wq_9_16 wq_1_5 wq_9_17
theorem gv7_70 : GoodIn wsL_law (va_wsS RX7 70 yX7_goesTo (Cond.code yX7_goesTo cX7_goesTo 5 (some .int) :: wsL_law)) := w0_S wq_10_10 wq_10_11 wq_1_5 wq_10_12
theorem gv7_74 : GoodIn wsL_law (wsV RX7 74 RX7 yX7_setPart (Cond.code yX7_setPart cX7_setPart 4 none :: wsL_law)) := w0_V wq_8_22 wq_8_23 wq_9_0 wq_1_5 wq_9_1
theorem gv7_78 : GoodIn wsL_law (wsV RX7 78 RX7 yX7_handGoes (Cond.code yX7_handGoes cX7_handGoes 2 none :: wsL_law)) := w0_V wq_9_6 wq_9_7 wq_9_8 wq_1_5 wq_9_9
theorem gv7_82 : GoodIn wsL_law (wsV RX7 82 RX7 yX7_voids (Cond.code yX7_voids cX7_voids 3 none :: wsL_law)) := w0_V wq_8_18 wq_8_19 wq_8_20 wq_1_5 wq_8_21
theorem gv7_91 : GoodIn wsL_law (wsV RX7 91 RX7 yX7_findOrder (Cond.code yX7_findOrder cX7_findOrder 3 none :: wsL_law)) := w0_V wq_19_7 wq_19_8 wq_19_9 wq_1_5 wq_19_10
theorem gv7_94 : GoodIn wsL_law (va_wsS RX7 94 yX7_reads (Cond.code yX7_reads cX7_reads 2 (some .int) :: wsL_law)) := w0_S wq_19_11 wq_19_12 wq_1_5 wq_19_13
theorem gv7_97 : GoodIn wsL_law (wsV RX7 97 RX7 yX7_voidsAll (Cond.code yX7_voidsAll cX7_voidsAll 2 none :: wsL_law)) := w0_V wq_8_14 wq_8_15 wq_8_16 wq_1_5 wq_8_17
end
section
/-! what the methods answer, in whole numbers -/
def b2i (p : Prop) [Decidable p] : Int := if p then 1 else 0
theorem b2i_t {p : Prop} [Decidable p] (h : p) : b2i p = 1 := if_pos h
theorem b2i_f {p : Prop} [Decidable p] (h : ¬ p) : b2i p = 0 := if_neg h
theorem b2i_01 {p : Prop} [Decidable p] : 0 ≤ b2i p ∧ b2i p ≤ 1 := by unfold b2i; split <;> omega
theorem b2i_c {p : Prop} [Decidable p] : b2i p = 0 ∨ b2i p = 1 := by unfold b2i; split <;> omega
theorem zr {x y : Int} (h : x = y) : some (Value.int (zI x)) = some (Value.int (zI y)) := by rw [h]
theorem u2_va {α : Type} (f : Nat → Nat → α) (a k : Nat) (g : Nat → α) (v : α) : u2 (va_up f a g) a k v = va_up f a (fun j => if j = k then v else g j) := by
  funext b j
  by_cases hb : b = a
  · subst hb
    by_cases hj : j = k <;> simp [u2, va_up, hj]
  · simp [u2, va_up, hb]
theorem u2_up {α : Type} (f : Nat → Nat → α) (a k : Nat) (v : α) : u2 f a k v = va_up f a (fun j => if j = k then v else f a j) := by
  funext b j
  by_cases hb : b = a
  · subst hb
    by_cases hj : j = k <;> simp [u2, va_up, hj]
  · simp [u2, va_up, hb]
theorem va_up2 {α : Type} (f : Nat → α) (a : Nat) (v w : α) : va_up (va_up f a v) a w = va_up f a w := by
  funext b
  by_cases hb : b = a <;> simp [va_up, hb]
theorem va_upS {α : Type} (f : Nat → α) (a : Nat) : va_up f a (f a) = f := by
  funext b
  by_cases hb : b = a <;> simp [va_up, hb]
def rnd (v b : Int) : Int := v / b + b2i (v % b ≥ b - v % b)
def massS (F : Nat → Int) (sm : Int) : Nat → Int
  | 0 => 100
  | n + 1 => massS F sm n + sm / 2 ^ n % 2 * F n
def wgt (m air : Int) : Int := m - rnd (m * (100 + 5 * air)) 100000
def prs (m air area : Int) : Int := wgt m air * 100 / area
def massA (f : Nat → Int) (sm : Int) : Int := massS (fun r => f (6 + r)) sm (f 3).toNat
def prsA (f : Nat → Int) (sm : Int) : Int := prs (massA f sm) (f 0) (f 1)
def absz (x : Int) : Int := if x < 0 then -x else x
def tru (p e : Int) : Int := if e < 0 then p - p * absz e / 1000 else p + p * absz e / 1000
def goes (h p e pl : Int) : Int := if h < tru p e - pl then tru p e - pl else if tru p e + pl < h then tru p e + pl else h
/-- a state in the row of the model -/
def Ok (f : Nat → Int) : Prop :=
  (0 ≤ f 0 ∧ f 0 ≤ 9) ∧ (1 ≤ f 1 ∧ f 1 ≤ 99) ∧ (0 ≤ f 2 ∧ f 2 ≤ 999) ∧ (0 ≤ f 3 ∧ f 3 ≤ 14) ∧ (0 ≤ f 4 ∧ f 4 < 2 ^ (f 3).toNat) ∧ (0 ≤ f 5 ∧ f 5 ≤ 6) ∧
  (∀ r : Nat, (r : Int) < f 3 → 1 ≤ f (6 + r) ∧ f (6 + r) ≤ 9999) ∧
  ∀ g : Nat, (g : Int) < f 5 → (-99 ≤ f (20 + 36 * g) ∧ f (20 + 36 * g) ≤ 99) ∧ (0 ≤ f (21 + 36 * g) ∧ f (21 + 36 * g) ≤ 99) ∧ (1 ≤ f (22 + 36 * g) ∧ f (22 + 36 * g) ≤ 99) ∧ (0 ≤ f (23 + 36 * g) ∧ f (23 + 36 * g) ≤ 16000000) ∧ (f (24 + 36 * g) = 0 ∨ f (24 + 36 * g) = 1)
theorem Ok4 {f : Nat → Int} (h : Ok f) : 0 ≤ f 4 ∧ f 4 < 16384 := by
  have h3 := h.2.2.2.1
  have h4 := h.2.2.2.2.1
  have h5 : (2 : Nat) ^ (f 3).toNat ≤ 2 ^ 14 := Nat.pow_le_pow_right (by omega) (by omega)
  have h6 : ((2 ^ (f 3).toNat : Nat) : Int) = 2 ^ (f 3).toNat := by push_cast; rfl
  omega
theorem bit01 (x : Int) : x % 2 = 0 ∨ x % 2 = 1 := by omega
theorem massS_rng {F : Nat → Int} {sm : Int} : ∀ n : Nat, (∀ r : Nat, r < n → 0 ≤ F r ∧ F r ≤ 9999) → 100 ≤ massS F sm n ∧ massS F sm n ≤ 100 + 9999 * n
  | 0, _ => by simp [massS]
  | n + 1, h => by
    have ih := massS_rng (sm := sm) n fun r hr => h r (by omega)
    have h1 := h n (by omega)
    unfold massS
    rcases bit01 (sm / 2 ^ n) with e | e <;> rw [e] <;> omega
theorem massA_rng {f : Nat → Int} (h : Ok f) (sm : Int) : 100 ≤ massA f sm ∧ massA f sm ≤ 140086 := by
  have h3 := h.2.2.2.1
  have := massS_rng (F := fun r => f (6 + r)) (sm := sm) (f 3).toNat fun r hr => by
    have := h.2.2.2.2.2.2.1 r (by omega); exact ⟨by omega, by omega⟩
  unfold massA
  omega
theorem rnd_rng {v b : Int} (hv : 0 ≤ v) (hb : 0 < b) : 0 ≤ rnd v b ∧ rnd v b ≤ v / b + 1 ∧ rnd v b ≤ v + 1 := by
  have h1 := Int.ediv_nonneg hv (Int.le_of_lt hb)
  have h2 := b2i_01 (p := v % b ≥ b - v % b)
  have h3 : v / b ≤ v := Int.ediv_le_self b hv
  unfold rnd
  omega
theorem air_rng {m air : Int} (hm : 100 ≤ m ∧ m ≤ 140086) (ha : 0 ≤ air ∧ air ≤ 9) : 0 ≤ m * (100 + 5 * air) ∧ m * (100 + 5 * air) ≤ 20312470 ∧ m * (100 + 5 * air) ≤ 145 * m := by
  have h1 : m * (100 + 5 * air) ≤ m * 145 := Int.mul_le_mul_of_nonneg_left (by omega) (by omega)
  have h2 : 0 ≤ m * (100 + 5 * air) := Int.mul_nonneg (by omega) (by omega)
  omega
theorem wgt_rng {m air : Int} (hm : 100 ≤ m ∧ m ≤ 140086) (ha : 0 ≤ air ∧ air ≤ 9) : 99 ≤ wgt m air ∧ wgt m air ≤ m := by
  obtain ⟨h1, h2, h3⟩ := air_rng hm ha
  obtain ⟨r1, r2, r3⟩ := rnd_rng (b := 100000) h1 (by omega)
  unfold wgt
  omega
theorem prs_rng {m air area : Int} (hm : 100 ≤ m ∧ m ≤ 140086) (ha : 0 ≤ air ∧ air ≤ 9) (hr : 1 ≤ area ∧ area ≤ 99) : 0 ≤ prs m air area ∧ prs m air area ≤ 14008600 := by
  obtain ⟨h1, h2⟩ := wgt_rng hm ha
  have h3 : 0 ≤ wgt m air * 100 := by omega
  have h4 : wgt m air * 100 / area ≤ wgt m air * 100 := Int.ediv_le_self area h3
  have h5 := Int.ediv_nonneg h3 (show 0 ≤ area by omega)
  unfold prs
  omega
theorem prsA_rng {f : Nat → Int} (h : Ok f) (sm : Int) : 0 ≤ prsA f sm ∧ prsA f sm ≤ 14008600 := prs_rng (massA_rng h sm) h.1 h.2.1
theorem tru_rng {p e : Int} (hp : 0 ≤ p ∧ p ≤ 14008600) (he : -99 ≤ e ∧ e ≤ 99) : (0 ≤ p * absz e ∧ p * absz e ≤ 1386851400) ∧ 0 ≤ tru p e ∧ tru p e ≤ 15500000 := by
  have ha : 0 ≤ absz e ∧ absz e ≤ 99 := by unfold absz; split <;> omega
  have h1 : p * absz e ≤ p * 99 := Int.mul_le_mul_of_nonneg_left (by omega) (by omega)
  have h2 : 0 ≤ p * absz e := Int.mul_nonneg (by omega) (by omega)
  refine ⟨by omega, ?_⟩
  unfold tru
  split <;> omega
theorem goes_rng {h p e pl : Int} (hp : 0 ≤ p ∧ p ≤ 14008600) (he : -99 ≤ e ∧ e ≤ 99) (hl : 0 ≤ pl ∧ pl ≤ 99) (hh : 0 ≤ h ∧ h ≤ 16000000) : 0 ≤ goes h p e pl ∧ goes h p e pl ≤ 16000000 := by
  have h1 := (tru_rng hp he).2
  unfold goes
  split
  · omega
  · split <;> omega
/-- the model's object o, its rows behind it -/
def ShM (G : GG) (z : Nat) (K N : Nat → Nat) (R : MR) (o : Nat) : Prop :=
  zK G z K o 7 ∧ (R o 0 = some (o + 1) ∧ R o 1 = some (o + 2) ∧ R o 3 = some (o + 3) ∧ R o 4 = some (o + 4) ∧ R o 5 = some (o + 5) ∧ R o 7 = some (o + 6) ∧ R o 8 = some (o + 7)) ∧
  (zK G z K (o + 1) 9 ∧ zK G z K (o + 2) 9 ∧ zK G z K (o + 3) 9 ∧ zK G z K (o + 4) 9 ∧ zK G z K (o + 5) 9 ∧ zK G z K (o + 6) 9 ∧ zK G z K (o + 7) 9) ∧
  (N (o + 1) = 236 ∧ N (o + 2) = 1416 ∧ N (o + 3) = 472 ∧ N (o + 4) = 2 ∧ N (o + 5) = 80 ∧ N (o + 6) = 14 ∧ N (o + 7) = 28)
def st1 (f : Nat → Int) (k : Nat) (v : Int) : Nat → Int := fun j => if j = k then v else f j
theorem st1_s (f : Nat → Int) (k : Nat) (v : Int) : st1 f k v k = v := if_pos rfl
theorem st1_n {f : Nat → Int} {k j : Nat} {v : Int} (h : j ≠ k) : st1 f k v j = f j := if_neg h
theorem u2_st (I : MI) (a k : Nat) (v : Int) : u2 I a k v = va_up I a (st1 (I a) k v) := u2_up I a k v
theorem u2_vst (I : MI) (a k : Nat) (f : Nat → Int) (v : Int) : u2 (va_up I a f) a k v = va_up I a (st1 f k v) := u2_va I a k f v
def handsP (P : Int) (n : Nat) (f : Nat → Int) : Nat → Int := fun j => if 23 ≤ j ∧ (j - 23) % 36 = 0 ∧ (j - 23) / 36 < n then goes (f j) P (f (j - 3)) (f (j - 2)) else f j
def handsF (f : Nat → Int) : Nat → Int := handsP (prsA f (f 4)) (f 5).toNat f
def voidK (g k : Nat) (f : Nat → Int) : Nat → Int := fun j => if 24 + 36 * g ≤ j ∧ j < 20 + 36 * g + k then 0 else f j
def voidF (g : Nat) (f : Nat → Int) : Nat → Int := voidK g 36 f
def voidN (n : Nat) (f : Nat → Int) : Nat → Int := fun j => if 20 ≤ j ∧ j < 20 + 36 * n ∧ 4 ≤ (j - 20) % 36 then 0 else f j
def voidsF (f : Nat → Int) : Nat → Int := voidN 6 f
theorem massS_cong {F F' : Nat → Int} {sm : Int} : ∀ n : Nat, (∀ r : Nat, r < n → F' r = F r) → massS F' sm n = massS F sm n
  | 0, _ => rfl
  | n + 1, h => by
    unfold massS
    rw [massS_cong n fun r hr => h r (by omega), h n (by omega)]
theorem prsA_cong {f f' : Nat → Int} {sm : Int} (h3 : f 3 ≤ 14) (h : ∀ j : Nat, j < 20 → f' j = f j) : prsA f' sm = prsA f sm := by
  unfold prsA massA
  rw [h 0 (by omega), h 1 (by omega), h 3 (by omega), massS_cong (f 3).toNat fun r hr => h (6 + r) (by omega)]
theorem handsP_lo {P : Int} {n : Nat} {f : Nat → Int} {j : Nat} (h : j < 23) : handsP P n f j = f j := if_neg (by omega)
theorem Ok.cong {f f' : Nat → Int} (h : Ok f) (h1 : ∀ j : Nat, j < 20 → f' j = f j) (h2 : ∀ g : Nat, (g : Int) < f 5 → f' (20 + 36 * g) = f (20 + 36 * g) ∧ f' (21 + 36 * g) = f (21 + 36 * g) ∧ f' (22 + 36 * g) = f (22 + 36 * g) ∧ (0 ≤ f' (23 + 36 * g) ∧ f' (23 + 36 * g) ≤ 16000000) ∧ (f' (24 + 36 * g) = 0 ∨ f' (24 + 36 * g) = 1)) : Ok f' := by
  obtain ⟨a0, a1, a2, a3, a4, a5, a6, a7⟩ := h
  unfold Ok
  rw [h1 0 (by omega), h1 1 (by omega), h1 2 (by omega), h1 3 (by omega), h1 4 (by omega), h1 5 (by omega)]
  refine ⟨a0, a1, a2, a3, a4, a5, fun r hr => by rw [h1 (6 + r) (by omega)]; exact a6 r hr, fun g hg => ?_⟩
  obtain ⟨b1, b2, b3, b4, b5⟩ := h2 g hg
  obtain ⟨c1, c2, c3, -, -⟩ := a7 g hg
  exact ⟨by rw [b1]; exact c1, by rw [b2]; exact c2, by rw [b3]; exact c3, b4, b5⟩
theorem Ok.hands {f : Nat → Int} (h : Ok f) {P : Int} (hP : 0 ≤ P ∧ P ≤ 14008600) (n : Nat) : Ok (handsP P n f) := by
  refine h.cong (fun j hj => handsP_lo (by omega)) fun g hg => ?_
  obtain ⟨c1, c2, c3, c4, c5⟩ := h.2.2.2.2.2.2.2 g hg
  refine ⟨if_neg (by omega), if_neg (by omega), if_neg (by omega), ?_, ?_⟩
  · unfold handsP
    split
    · rw [show 23 + 36 * g - 3 = 20 + 36 * g by omega, show 23 + 36 * g - 2 = 21 + 36 * g by omega]
      exact goes_rng hP c1 c2 c4
    · exact c4
  · rw [show handsP P n f (24 + 36 * g) = f (24 + 36 * g) from if_neg (by omega)]
    exact c5
theorem hands_step (I : MI) (a : Nat) {P : Int} {f : Nat → Int} (i : Nat) : u2 (va_up I a (handsP P i f)) a (23 + 36 * i) (goes (handsP P i f (23 + 36 * i)) P (handsP P i f (20 + 36 * i)) (handsP P i f (21 + 36 * i))) = va_up I a (handsP P (i + 1) f) := by
  rw [u2_vst]
  congr 1
  funext j
  have e1 : handsP P i f (20 + 36 * i) = f (20 + 36 * i) := if_neg (by omega)
  have e2 : handsP P i f (21 + 36 * i) = f (21 + 36 * i) := if_neg (by omega)
  have e3 : handsP P i f (23 + 36 * i) = f (23 + 36 * i) := if_neg (by omega)
  rw [e1, e2, e3]
  by_cases hj : j = 23 + 36 * i
  · subst hj
    rw [st1_s]
    unfold handsP
    rw [if_pos (by omega), show 23 + 36 * i - 3 = 20 + 36 * i by omega, show 23 + 36 * i - 2 = 21 + 36 * i by omega]
  · rw [st1_n hj]
    unfold handsP
    by_cases h : 23 ≤ j ∧ (j - 23) % 36 = 0 ∧ (j - 23) / 36 < i
    · rw [if_pos h, if_pos (by omega)]
    · rw [if_neg h, if_neg (by omega)]
theorem void_step (I : MI) (a g k : Nat) (f : Nat → Int) (hk : 4 ≤ k) : u2 (va_up I a (voidK g k f)) a (20 + 36 * g + k) 0 = va_up I a (voidK g (k + 1) f) := by
  rw [u2_vst]
  congr 1
  funext j
  unfold st1 voidK
  by_cases hj : j = 20 + 36 * g + k
  · rw [if_pos hj, if_pos (by omega)]
  · rw [if_neg hj]
    by_cases h : 24 + 36 * g ≤ j ∧ j < 20 + 36 * g + k
    · rw [if_pos h, if_pos (by omega)]
    · rw [if_neg h, if_neg (by omega)]
theorem void_0 (g : Nat) (f : Nat → Int) : voidK g 4 f = f := by
  funext j
  exact if_neg (by omega)
theorem voidN_0 (f : Nat → Int) : voidN 0 f = f := by
  funext j
  exact if_neg (by omega)
theorem voidN_step (n : Nat) (f : Nat → Int) : voidF n (voidN n f) = voidN (n + 1) f := by
  funext j
  unfold voidF voidK voidN
  by_cases h1 : 24 + 36 * n ≤ j ∧ j < 20 + 36 * n + 36
  · rw [if_pos h1, if_pos (by omega)]
  · rw [if_neg h1]
    by_cases h2 : 20 ≤ j ∧ j < 20 + 36 * n ∧ 4 ≤ (j - 20) % 36
    · rw [if_pos h2, if_pos (by omega)]
    · rw [if_neg h2, if_neg (by omega)]
theorem Ok.voidG {f : Nat → Int} (h : Ok f) (g : Nat) : Ok (voidF g f) := by
  refine h.cong (fun j hj => if_neg (by omega)) fun q hq => ?_
  obtain ⟨c1, c2, c3, c4, c5⟩ := h.2.2.2.2.2.2.2 q hq
  refine ⟨if_neg (by omega), if_neg (by omega), if_neg (by omega), ?_, ?_⟩
  · rw [show voidF g f (23 + 36 * q) = f (23 + 36 * q) from if_neg (by omega)]; exact c4
  · unfold voidF voidK; split
    · exact Or.inl rfl
    · exact c5
theorem Ok.voids {f : Nat → Int} (h : Ok f) : Ok (voidsF f) := by
  refine h.cong (fun j hj => if_neg (by omega)) fun q hq => ?_
  obtain ⟨c1, c2, c3, c4, c5⟩ := h.2.2.2.2.2.2.2 q hq
  refine ⟨if_neg (by omega), if_neg (by omega), if_neg (by omega), ?_, ?_⟩
  · rw [show voidsF f (23 + 36 * q) = f (23 + 36 * q) from if_neg (by omega)]; exact c4
  · unfold voidsF voidN; split
    · exact Or.inl rfl
    · exact c5
def certN (f : Nat → Int) : Nat → Int
  | 0 => 0
  | g + 1 => certN f g + f (24 + 36 * g)
/-- a row of 236 in another array -/
def movF (s d : Nat → Int) (f t : Nat) : Nat → Int := fun j => if t ≤ j ∧ j < t + 236 then s (f + (j - t)) else d j
def recS (h : Nat → Int) (n : Int) : Nat → Int := fun j => if n = 6 ∧ j < 1180 then h (j + 236) else h j
def recN (n : Int) : Int := if n = 6 then 5 else n
def recH (f h : Nat → Int) (n : Int) : Nat → Int := movF f (recS h n) 0 (236 * recN n).toNat
/-- the model's memory behind record() -/
def recM (I : MI) (o : Nat) : MI := u2 (va_up I (o + 2) (recH (I (o + 1)) (I (o + 2)) (I o 2))) o 2 (recN (I o 2) + 1)
end
section
set_option maxHeartbeats 4000000 in
set_option maxRecDepth 100000 in
theorem mX7_within (l : Launch) (G : GG) {z : Nat} {K N : Nat → Nat} {I : MI} {R : MR} {v low high : Int} (hv : -2147483648 ≤ v ∧ v < 2147483648) (hlow : -2147483648 ≤ low ∧ low < 2147483648) (hhigh : -2147483648 ≤ high ∧ high < 2147483648) : Cod l G yX7_within (Cond.code yX7_within cX7_within 3 (some .boolean) :: wsL_law) ⟨0, 0, 0, 0⟩ [.int (zI v), .int (zI low), .int (zI high)] z K N I R (some (.int (zI (b2i (low ≤ v ∧ v ≤ high))))) I R := by
  refine Con.of (own := RX7) (cc := cX7_within) (maxL := 3) (ret := (some .boolean)) (by decide +kernel) rfl rfl (Nat.le_of_ble_eq_true rfl) (by decide) rfl ?_
  intro p e9 s mt args below meth c Q hin hQ C
  refine z_iload_n C dX7_within_0 rfl ?_
  refine z_iload_n C dX7_within_1 rfl ?_
  refine z_icmp_lt C (tgt := 14) dX7_within_2 (by decide) (by omega) (by omega) (fun h2 => ?_) (fun h2 => ?_)
  · refine z_iconst C dX7_within_14 ?_
    exact z_zret2 C hQ rfl (by first | exact Or.inl rfl | exact Or.inr rfl | exact b2i_c | omega) dX7_within_15 ⟨zr (by first | exact (b2i_t (by omega)).symm | exact (b2i_f (by omega)).symm), rfl, rfl, rfl, rfl, rfl⟩
  · refine z_iload_n C dX7_within_5 rfl ?_
    refine z_iload_n C dX7_within_6 rfl ?_
    refine z_icmp_gt C (tgt := 14) dX7_within_7 (by decide) (by omega) (by omega) (fun h7 => ?_) (fun h7 => ?_)
    · refine z_iconst C dX7_within_14 ?_
      exact z_zret2 C hQ rfl (by first | exact Or.inl rfl | exact Or.inr rfl | exact b2i_c | omega) dX7_within_15 ⟨zr (by first | exact (b2i_t (by omega)).symm | exact (b2i_f (by omega)).symm), rfl, rfl, rfl, rfl, rfl⟩
    · refine z_iconst C dX7_within_10 ?_
      refine z_goto C (tgt := 15) dX7_within_11 (by decide) ?_
      exact z_zret2 C hQ rfl (by first | exact Or.inl rfl | exact Or.inr rfl | exact b2i_c | omega) dX7_within_15 ⟨zr (by first | exact (b2i_t (by omega)).symm | exact (b2i_f (by omega)).symm), rfl, rfl, rfl, rfl, rfl⟩

set_option maxHeartbeats 4000000 in
set_option maxRecDepth 100000 in
theorem mX7_size (l : Launch) (G : GG) {z : Nat} {K N : Nat → Nat} {I : MI} {R : MR} {v : Int} (hv : -2147483648 < v ∧ v < 2147483648) : Cod l G yX7_size (Cond.code yX7_size cX7_size 1 (some .int) :: wsL_law) ⟨0, 0, 0, 0⟩ [.int (zI v)] z K N I R (some (.int (zI (absz v)))) I R := by
  refine Con.of (own := RX7) (cc := cX7_size) (maxL := 1) (ret := (some .int)) (by decide +kernel) rfl rfl (Nat.le_of_ble_eq_true rfl) (by decide) rfl ?_
  intro p e9 s mt args below meth c Q hin hQ C
  refine z_iload_n C dX7_size_0 rfl ?_
  refine z_if_ge C (tgt := 9) dX7_size_1 (by decide) (by omega) (fun h1 => ?_) (fun h1 => ?_)
  · refine z_iload_n C dX7_size_9 rfl ?_
    exact z_iret2 C hQ rfl dX7_size_10 ⟨zr (by unfold absz; split <;> omega), rfl, rfl, rfl, rfl, rfl⟩
  · refine z_iload_n C dX7_size_4 rfl ?_
    refine z_ineg C dX7_size_5 ?_
    refine z_goto C (tgt := 10) dX7_size_6 (by decide) ?_
    exact z_iret2 C hQ rfl dX7_size_10 ⟨zr (by unfold absz; split <;> omega), rfl, rfl, rfl, rfl, rfl⟩

set_option maxHeartbeats 4000000 in
set_option maxRecDepth 100000 in
theorem mX7_rounded (l : Launch) (G : GG) {z : Nat} {K N : Nat → Nat} {I : MI} {R : MR} {v b : Int} (hv : 0 ≤ v ∧ v < 2147483648) (hb : 0 < b ∧ b < 2147483648) : Cod l G yX7_rounded (Cond.code yX7_rounded cX7_rounded 2 (some .int) :: wsL_law) ⟨0, 0, 0, 0⟩ [.int (zI v), .int (zI b)] z K N I R (some (.int (zI (rnd v b)))) I R := by
  refine Con.of (own := RX7) (cc := cX7_rounded) (maxL := 2) (ret := (some .int)) (by decide +kernel) rfl rfl (Nat.le_of_ble_eq_true rfl) (by decide) rfl ?_
  intro p e9 s mt args below meth c Q hin hQ C
  have hm0 := Int.emod_nonneg v (show b ≠ 0 by omega)
  have hm1 := Int.emod_lt_of_pos v hb.1
  refine z_iload_n C dX7_rounded_0 rfl ?_
  refine z_iload_n C dX7_rounded_1 rfl ?_
  refine z_idiv C dX7_rounded_2 (by omega) (by omega) ?_
  refine z_iload_n C dX7_rounded_3 rfl ?_
  refine z_iload_n C dX7_rounded_4 rfl ?_
  refine z_irem C dX7_rounded_5 (by omega) (by omega) ?_
  refine z_iload_n C dX7_rounded_6 rfl ?_
  refine z_iload_n C dX7_rounded_7 rfl ?_
  refine z_iload_n C dX7_rounded_8 rfl ?_
  refine z_irem C dX7_rounded_9 (by omega) (by omega) ?_
  refine z_isub C dX7_rounded_10 ?_
  refine z_icmp_lt C (tgt := 18) dX7_rounded_11 (by decide) (by omega) (by omega) (fun h11 => ?_) (fun h11 => ?_)
  · refine z_iconst C dX7_rounded_18 ?_
    refine z_iadd C dX7_rounded_19 ?_
    exact z_iret2 C hQ rfl dX7_rounded_20 ⟨zr (by unfold rnd; first | rw [b2i_t (by omega)] | rw [b2i_f (by omega)]), rfl, rfl, rfl, rfl, rfl⟩
  · refine z_iconst C dX7_rounded_14 ?_
    refine z_goto C (tgt := 19) dX7_rounded_15 (by decide) ?_
    refine z_iadd C dX7_rounded_19 ?_
    exact z_iret2 C hQ rfl dX7_rounded_20 ⟨zr (by unfold rnd; first | rw [b2i_t (by omega)] | rw [b2i_f (by omega)]), rfl, rfl, rfl, rfl, rfl⟩

set_option maxHeartbeats 4000000 in
set_option maxRecDepth 100000 in
theorem mX7_isRing (l : Launch) (G : GG) {z : Nat} {K N : Nat → Nat} {I : MI} {R : MR} {o : Nat} (hM : ShM G z K N R o) (hO : Ok (I (o + 1))) {r : Int} (hr : -2147483648 ≤ r ∧ r < 2147483648) : Cod l G yX7_isRing (Cond.code yX7_isRing cX7_isRing 2 (some .boolean) :: wsL_law) ⟨1, 0, 0, 22⟩ [.ref o, .int (zI r)] z K N I R (some (.int (zI (b2i (0 ≤ r ∧ r ≤ I (o + 1) 3 - 1))))) I R := by
  refine Con.of (own := RX7) (cc := cX7_isRing) (maxL := 2) (ret := (some .boolean)) (by decide +kernel) rfl rfl (Nat.le_of_ble_eq_true rfl) (by decide) rfl ?_
  intro p e9 s mt args below meth c Q hin hQ C
  obtain ⟨ho, ⟨r0, r1, r3, r4, r5, r7, r8⟩, ⟨k1, k2, k3, k4, k5, k6, k7⟩, n1, n2, n3, n4, n5, n6, n7⟩ := id hM
  have h3 := hO.2.2.2.1
  refine z_iload_n C dX7_isRing_0 rfl ?_
  refine z_iconst C dX7_isRing_1 ?_
  refine z_aload_n C dX7_isRing_2 rfl ?_
  refine z_gR C (ci := 7) (k := 0) rfl (by decide) rfl (by decide) wl_7 wq_4_3 (by decide) dX7_isRing_3 (by assumption) (by assumption) ?_
  refine z_iconst C dX7_isRing_6 ?_
  refine z_ialdk C (3) dX7_isRing_7 (by assumption) (by first | rfl | omega) (by omega) (by omega) ?_
  refine z_iconst C dX7_isRing_8 ?_
  refine z_isub C dX7_isRing_9 ?_
  refine z_callSd C (mX7_within l G (by omega) (by omega) (by omega)) (va_cwS 3 C.2.2.2.2.1 gv7_39 rfl rfl rfl hs_X7_within ⟨Nat.le_of_ble_eq_true rfl, Nat.le_of_ble_eq_true rfl⟩) rfl rfl (Nat.le_of_ble_eq_true rfl) dX7_isRing_10 ⟨Nat.zero_le _, Nat.zero_le _⟩ ?_
  exact z_zret2 C hQ rfl (by first | exact Or.inl rfl | exact Or.inr rfl | exact b2i_c | omega) dX7_isRing_13 ⟨rfl, rfl, rfl, rfl, rfl, rfl⟩

set_option maxHeartbeats 4000000 in
set_option maxRecDepth 100000 in
theorem mX7_isGauge (l : Launch) (G : GG) {z : Nat} {K N : Nat → Nat} {I : MI} {R : MR} {o : Nat} (hM : ShM G z K N R o) (hO : Ok (I (o + 1))) {r : Int} (hr : -2147483648 ≤ r ∧ r < 2147483648) : Cod l G yX7_isGauge (Cond.code yX7_isGauge cX7_isGauge 2 (some .boolean) :: wsL_law) ⟨1, 0, 0, 22⟩ [.ref o, .int (zI r)] z K N I R (some (.int (zI (b2i (0 ≤ r ∧ r ≤ I (o + 1) 5 - 1))))) I R := by
  refine Con.of (own := RX7) (cc := cX7_isGauge) (maxL := 2) (ret := (some .boolean)) (by decide +kernel) rfl rfl (Nat.le_of_ble_eq_true rfl) (by decide) rfl ?_
  intro p e9 s mt args below meth c Q hin hQ C
  obtain ⟨ho, ⟨r0, r1, r3, r4, r5, r7, r8⟩, ⟨k1, k2, k3, k4, k5, k6, k7⟩, n1, n2, n3, n4, n5, n6, n7⟩ := id hM
  have h3 := hO.2.2.2.2.2.1
  refine z_iload_n C dX7_isGauge_0 rfl ?_
  refine z_iconst C dX7_isGauge_1 ?_
  refine z_aload_n C dX7_isGauge_2 rfl ?_
  refine z_gR C (ci := 7) (k := 0) rfl (by decide) rfl (by decide) wl_7 wq_4_3 (by decide) dX7_isGauge_3 (by assumption) (by assumption) ?_
  refine z_iconst C dX7_isGauge_6 ?_
  refine z_ialdk C (5) dX7_isGauge_7 (by assumption) (by first | rfl | omega) (by omega) (by omega) ?_
  refine z_iconst C dX7_isGauge_8 ?_
  refine z_isub C dX7_isGauge_9 ?_
  refine z_callSd C (mX7_within l G (by omega) (by omega) (by omega)) (va_cwS 3 C.2.2.2.2.1 gv7_39 rfl rfl rfl hs_X7_within ⟨Nat.le_of_ble_eq_true rfl, Nat.le_of_ble_eq_true rfl⟩) rfl rfl (Nat.le_of_ble_eq_true rfl) dX7_isGauge_10 ⟨Nat.zero_le _, Nat.zero_le _⟩ ?_
  exact z_zret2 C hQ rfl (by first | exact Or.inl rfl | exact Or.inr rfl | exact b2i_c | omega) dX7_isGauge_13 ⟨rfl, rfl, rfl, rfl, rfl, rfl⟩

set_option maxHeartbeats 4000000 in
set_option maxRecDepth 100000 in
theorem mX7_isStacked (l : Launch) (G : GG) {z : Nat} {K N : Nat → Nat} {I : MI} {R : MR} {o : Nat} (hM : ShM G z K N R o) (hO : Ok (I (o + 1))) {r : Int} (hr : 0 ≤ r ∧ r < 31) : Cod l G yX7_isStacked (Cond.code yX7_isStacked cX7_isStacked 2 (some .boolean) :: wsL_law) ⟨0, 0, 0, 0⟩ [.ref o, .int (zI r)] z K N I R (some (.int (zI (I (o + 1) 4 / 2 ^ r.toNat % 2)))) I R := by
  refine Con.of (own := RX7) (cc := cX7_isStacked) (maxL := 2) (ret := (some .boolean)) (by decide +kernel) rfl rfl (Nat.le_of_ble_eq_true rfl) (by decide) rfl ?_
  intro p e9 s mt args below meth c Q hin hQ C
  obtain ⟨ho, ⟨r0, r1, r3, r4, r5, r7, r8⟩, ⟨k1, k2, k3, k4, k5, k6, k7⟩, n1, n2, n3, n4, n5, n6, n7⟩ := id hM
  have h4 := Ok4 hO
  refine z_aload_n C dX7_isStacked_0 rfl ?_
  refine z_gR C (ci := 7) (k := 0) rfl (by decide) rfl (by decide) wl_7 wq_4_3 (by decide) dX7_isStacked_1 (by assumption) (by assumption) ?_
  refine z_iconst C dX7_isStacked_4 ?_
  refine z_ialdk C (4) dX7_isStacked_5 (by assumption) (by first | rfl | omega) (by omega) (by omega) ?_
  refine z_iload_n C dX7_isStacked_6 rfl ?_
  refine z_ishr C dX7_isStacked_7 (zI_shr (by omega) (by omega)) ?_
  refine z_iconst C dX7_isStacked_8 ?_
  refine z_iand C dX7_isStacked_9 (zI_and1 _) ?_
  refine z_iconst C dX7_isStacked_10 ?_
  refine z_icmp_ne C (tgt := 18) dX7_isStacked_11 (by decide) (by omega) (by omega) (fun h11 => ?_) (fun h11 => ?_)
  · refine z_iconst C dX7_isStacked_18 ?_
    exact z_zret2 C hQ rfl (by first | exact Or.inl rfl | exact Or.inr rfl | exact b2i_c | omega) dX7_isStacked_19 ⟨zr (by first | exact (he).symm | omega), rfl, rfl, rfl, rfl, rfl⟩
  · refine z_iconst C dX7_isStacked_14 ?_
    refine z_goto C (tgt := 19) dX7_isStacked_15 (by decide) ?_
    exact z_zret2 C hQ rfl (by first | exact Or.inl rfl | exact Or.inr rfl | exact b2i_c | omega) dX7_isStacked_19 ⟨zr (by first | exact (he).symm | omega), rfl, rfl, rfl, rfl, rfl⟩

set_option maxHeartbeats 4000000 in
set_option maxRecDepth 100000 in
theorem mX7_massOf (l : Launch) (G : GG) {z : Nat} {K N : Nat → Nat} {I : MI} {R : MR} {o : Nat} (hM : ShM G z K N R o) (hO : Ok (I (o + 1))) {sm : Int} (hs : 0 ≤ sm ∧ sm < 2147483648) : Cod l G yX7_massOf (Cond.code yX7_massOf cX7_massOf 4 (some .int) :: wsL_law) ⟨0, 0, 0, 0⟩ [.ref o, .int (zI sm)] z K N I R (some (.int (zI (massA (I (o + 1)) sm)))) I R := by
  refine Con.of (own := RX7) (cc := cX7_massOf) (maxL := 4) (ret := (some .int)) (by decide +kernel) rfl rfl (Nat.le_of_ble_eq_true rfl) (by decide) rfl ?_
  intro p e9 s mt args below meth c Q hin hQ C
  obtain ⟨ho, ⟨r0, r1, r3, r4, r5, r7, r8⟩, ⟨k1, k2, k3, k4, k5, k6, k7⟩, n1, n2, n3, n4, n5, n6, n7⟩ := id hM
  have h3 := hO.2.2.2.1
  have hloop : ∀ (n i : Nat), (i : Int) ≤ I (o + 1) 3 → I (o + 1) 3 - i < n → Zq p l e9 ⟨0, 0, 0, 0⟩ s mt args below meth c G 4 Q 0 0 z K N I R 5 [(0, .ref o), (1, .int (zI sm)), (2, .int (zI (massS (fun r => I (o + 1) (6 + r)) sm i))), (3, .int (zI (i : Int)))] [] := by
    intro n
    induction n with
    | zero => intro i h1 h2; exact absurd h2 (by omega)
    | succ n ih =>
      intro i h1 h2
      refine z_iload_n C dX7_massOf_5 rfl ?_
      refine z_aload_n C dX7_massOf_6 rfl ?_
      refine z_gR C (ci := 7) (k := 0) rfl (by decide) rfl (by decide) wl_7 wq_4_3 (by decide) dX7_massOf_7 (by assumption) (by assumption) ?_
      refine z_iconst C dX7_massOf_10 ?_
      refine z_ialdk C (3) dX7_massOf_11 (by assumption) (by first | rfl | omega) (by omega) (by omega) ?_
      refine z_icmp_ge C (tgt := 39) dX7_massOf_12 (by decide) (by omega) (by omega) (fun h12 => ?_) (fun h12 => ?_)
      · refine z_iload_n C dX7_massOf_39 rfl ?_
        exact z_iret2 C hQ rfl dX7_massOf_40 ⟨zr (by unfold massA; congr 1; omega), rfl, rfl, rfl, rfl, rfl⟩
      · refine z_iload_n C dX7_massOf_15 rfl ?_
        refine z_iload_n C dX7_massOf_16 rfl ?_
        refine z_iload_n C dX7_massOf_17 rfl ?_
        refine z_ishr C dX7_massOf_18 (zI_shr (by omega) (by omega)) ?_
        refine z_iconst C dX7_massOf_19 ?_
        refine z_iand C dX7_massOf_20 (zI_and1 _) ?_
        refine z_aload_n C dX7_massOf_21 rfl ?_
        refine z_gR C (ci := 7) (k := 0) rfl (by decide) rfl (by decide) wl_7 wq_4_3 (by decide) dX7_massOf_22 (by assumption) (by assumption) ?_
        refine z_bipush C dX7_massOf_25 (by decide) ?_
        refine z_iload_n C dX7_massOf_27 rfl ?_
        refine z_iadd C dX7_massOf_28 ?_
        refine z_ialdk C (6 + i) dX7_massOf_29 (by assumption) (by first | rfl | omega) (by omega) (by omega) ?_
        refine z_imul C dX7_massOf_30 ?_
        refine z_iadd C dX7_massOf_31 ?_
        refine z_istore_n C dX7_massOf_32 (by decide) rfl ?_
        refine z_iinc C dX7_massOf_33 rfl (by decide) rfl ?_
        refine z_goto C (tgt := 5) dX7_massOf_36 (by decide) ?_
        exact ih (i + 1) (by omega) (by omega)
  refine z_bipush C dX7_massOf_0 (by decide) ?_
  refine z_istore_n C dX7_massOf_2 (by decide) rfl ?_
  refine z_iconst C dX7_massOf_3 ?_
  refine z_istore_n C dX7_massOf_4 (by decide) rfl ?_
  exact hloop 15 0 (by omega) (by omega)

set_option maxHeartbeats 4000000 in
set_option maxRecDepth 100000 in
theorem mX7_weightOf (l : Launch) (G : GG) {z : Nat} {K N : Nat → Nat} {I : MI} {R : MR} {o : Nat} (hM : ShM G z K N R o) {m air : Int} (hm : 100 ≤ m ∧ m ≤ 140086) (ha : 0 ≤ air ∧ air ≤ 9) : Cod l G yX7_weightOf (Cond.code yX7_weightOf cX7_weightOf 3 (some .int) :: wsL_law) ⟨1, 0, 0, 21⟩ [.ref o, .int (zI m), .int (zI air)] z K N I R (some (.int (zI (wgt m air)))) I R := by
  refine Con.of (own := RX7) (cc := cX7_weightOf) (maxL := 3) (ret := (some .int)) (by decide +kernel) rfl rfl (Nat.le_of_ble_eq_true rfl) (by decide) rfl ?_
  intro p e9 s mt args below meth c Q hin hQ C
  obtain ⟨ho, ⟨r0, r1, r3, r4, r5, r7, r8⟩, ⟨k1, k2, k3, k4, k5, k6, k7⟩, n1, n2, n3, n4, n5, n6, n7⟩ := id hM
  have hr := air_rng hm ha
  refine z_iload_n C dX7_weightOf_0 rfl ?_
  refine z_iload_n C dX7_weightOf_1 rfl ?_
  refine z_bipush C dX7_weightOf_2 (by decide) ?_
  refine z_iconst C dX7_weightOf_4 ?_
  refine z_iload_n C dX7_weightOf_5 rfl ?_
  refine z_imul C dX7_weightOf_6 ?_
  refine z_iadd C dX7_weightOf_7 ?_
  refine z_imul C dX7_weightOf_8 ?_
  refine z_ldc C (n := 100000) dX7_weightOf_9 wq_10_6 ?_
  refine z_callSd C (mX7_rounded l G (by omega) (by omega)) (va_cwS 2 C.2.2.2.2.1 gv7_44 rfl rfl rfl hs_X7_rounded ⟨Nat.le_of_ble_eq_true rfl, Nat.le_of_ble_eq_true rfl⟩) rfl rfl (Nat.le_of_ble_eq_true rfl) dX7_weightOf_11 ⟨Nat.zero_le _, Nat.zero_le _⟩ ?_
  refine z_isub C dX7_weightOf_14 ?_
  exact z_iret2 C hQ rfl dX7_weightOf_15 ⟨rfl, rfl, rfl, rfl, rfl, rfl⟩

set_option maxHeartbeats 4000000 in
set_option maxRecDepth 100000 in
theorem mX7_pressureBy (l : Launch) (G : GG) {z : Nat} {K N : Nat → Nat} {I : MI} {R : MR} {o : Nat} (hM : ShM G z K N R o) (hO : Ok (I (o + 1))) {m air : Int} (hm : 100 ≤ m ∧ m ≤ 140086) (ha : 0 ≤ air ∧ air ≤ 9) : Cod l G yX7_pressureBy (Cond.code yX7_pressureBy cX7_pressureBy 3 (some .int) :: wsL_law) ⟨2, 0, 0, 43⟩ [.ref o, .int (zI m), .int (zI air)] z K N I R (some (.int (zI (prs m air (I (o + 1) 1))))) I R := by
  refine Con.of (own := RX7) (cc := cX7_pressureBy) (maxL := 3) (ret := (some .int)) (by decide +kernel) rfl rfl (Nat.le_of_ble_eq_true rfl) (by decide) rfl ?_
  intro p e9 s mt args below meth c Q hin hQ C
  obtain ⟨ho, ⟨r0, r1, r3, r4, r5, r7, r8⟩, ⟨k1, k2, k3, k4, k5, k6, k7⟩, n1, n2, n3, n4, n5, n6, n7⟩ := id hM
  have hr := wgt_rng hm ha
  have h1 := hO.2.1
  refine z_aload_n C dX7_pressureBy_0 rfl ?_
  refine z_iload_n C dX7_pressureBy_1 rfl ?_
  refine z_iload_n C dX7_pressureBy_2 rfl ?_
  refine z_callVd C (ci := 7) rfl (by decide) (by assumption) (mX7_weightOf l G hM hm ha) (cwV 2 C.2.2.2.2.1 gv7_48 rfl rfl rfl hd_X7_weightOf ⟨Nat.le_of_ble_eq_true rfl, Nat.le_of_ble_eq_true rfl⟩) rfl rfl (Nat.le_of_ble_eq_true rfl) dX7_pressureBy_3 ⟨Nat.zero_le _, Nat.zero_le _⟩ ?_
  refine z_bipush C dX7_pressureBy_6 (by decide) ?_
  refine z_imul C dX7_pressureBy_8 ?_
  refine z_aload_n C dX7_pressureBy_9 rfl ?_
  refine z_gR C (ci := 7) (k := 0) rfl (by decide) rfl (by decide) wl_7 wq_4_3 (by decide) dX7_pressureBy_10 (by assumption) (by assumption) ?_
  refine z_iconst C dX7_pressureBy_13 ?_
  refine z_ialdk C (1) dX7_pressureBy_14 (by assumption) (by first | rfl | omega) (by omega) (by omega) ?_
  refine z_idiv C dX7_pressureBy_15 (by omega) (by omega) ?_
  exact z_iret2 C hQ rfl dX7_pressureBy_16 ⟨rfl, rfl, rfl, rfl, rfl, rfl⟩

set_option maxHeartbeats 4000000 in
set_option maxRecDepth 100000 in
theorem mX7_pressureOf (l : Launch) (G : GG) {z : Nat} {K N : Nat → Nat} {I : MI} {R : MR} {o : Nat} (hM : ShM G z K N R o) (hO : Ok (I (o + 1))) {sm : Int} (hs : 0 ≤ sm ∧ sm < 2147483648) : Cod l G yX7_pressureOf (Cond.code yX7_pressureOf cX7_pressureOf 2 (some .int) :: wsL_law) ⟨3, 0, 0, 65⟩ [.ref o, .int (zI sm)] z K N I R (some (.int (zI (prsA (I (o + 1)) sm)))) I R := by
  refine Con.of (own := RX7) (cc := cX7_pressureOf) (maxL := 2) (ret := (some .int)) (by decide +kernel) rfl rfl (Nat.le_of_ble_eq_true rfl) (by decide) rfl ?_
  intro p e9 s mt args below meth c Q hin hQ C
  obtain ⟨ho, ⟨r0, r1, r3, r4, r5, r7, r8⟩, ⟨k1, k2, k3, k4, k5, k6, k7⟩, n1, n2, n3, n4, n5, n6, n7⟩ := id hM
  refine z_aload_n C dX7_pressureOf_0 rfl ?_
  refine z_aload_n C dX7_pressureOf_1 rfl ?_
  refine z_iload_n C dX7_pressureOf_2 rfl ?_
  refine z_callVd C (ci := 7) rfl (by decide) (by assumption) (mX7_massOf l G hM hO hs) (cwV 1 C.2.2.2.2.1 gv7_51 rfl rfl rfl hd_X7_massOf ⟨Nat.le_of_ble_eq_true rfl, Nat.le_of_ble_eq_true rfl⟩) rfl rfl (Nat.le_of_ble_eq_true rfl) dX7_pressureOf_3 ⟨Nat.zero_le _, Nat.zero_le _⟩ ?_
  refine z_aload_n C dX7_pressureOf_6 rfl ?_
  refine z_gR C (ci := 7) (k := 0) rfl (by decide) rfl (by decide) wl_7 wq_4_3 (by decide) dX7_pressureOf_7 (by assumption) (by assumption) ?_
  refine z_iconst C dX7_pressureOf_10 ?_
  refine z_ialdk C (0) dX7_pressureOf_11 (by assumption) (by first | rfl | omega) (by omega) (by omega) ?_
  refine z_callVd C (ci := 7) rfl (by decide) (by assumption) (mX7_pressureBy l G hM hO (massA_rng hO sm) hO.1) (cwV 2 C.2.2.2.2.1 gv7_55 rfl rfl rfl hd_X7_pressureBy ⟨Nat.le_of_ble_eq_true rfl, Nat.le_of_ble_eq_true rfl⟩) rfl rfl (Nat.le_of_ble_eq_true rfl) dX7_pressureOf_12 ⟨Nat.zero_le _, Nat.zero_le _⟩ ?_
  exact z_iret2 C hQ rfl dX7_pressureOf_15 ⟨rfl, rfl, rfl, rfl, rfl, rfl⟩

set_option maxHeartbeats 4000000 in
set_option maxRecDepth 100000 in
theorem mX7_part (l : Launch) (G : GG) {z : Nat} {K N : Nat → Nat} {I : MI} {R : MR} {o : Nat} (hM : ShM G z K N R o) {g q : Int} (hg : 0 ≤ g ∧ g < 6) (hq : 0 ≤ q ∧ q < 36) : Cod l G yX7_part (Cond.code yX7_part cX7_part 3 (some .int) :: wsL_law) ⟨0, 0, 0, 0⟩ [.ref o, .int (zI g), .int (zI q)] z K N I R (some (.int (zI (I (o + 1) (20 + 36 * g + q).toNat)))) I R := by
  refine Con.of (own := RX7) (cc := cX7_part) (maxL := 3) (ret := (some .int)) (by decide +kernel) rfl rfl (Nat.le_of_ble_eq_true rfl) (by decide) rfl ?_
  intro p e9 s mt args below meth c Q hin hQ C
  obtain ⟨ho, ⟨r0, r1, r3, r4, r5, r7, r8⟩, ⟨k1, k2, k3, k4, k5, k6, k7⟩, n1, n2, n3, n4, n5, n6, n7⟩ := id hM
  refine z_aload_n C dX7_part_0 rfl ?_
  refine z_gR C (ci := 7) (k := 0) rfl (by decide) rfl (by decide) wl_7 wq_4_3 (by decide) dX7_part_1 (by assumption) (by assumption) ?_
  refine z_bipush C dX7_part_4 (by decide) ?_
  refine z_bipush C dX7_part_6 (by decide) ?_
  refine z_iload_n C dX7_part_8 rfl ?_
  refine z_imul C dX7_part_9 ?_
  refine z_iadd C dX7_part_10 ?_
  refine z_iload_n C dX7_part_11 rfl ?_
  refine z_iadd C dX7_part_12 ?_
  refine z_iald C dX7_part_13 (by assumption) (by omega) (by omega) ?_
  exact z_iret2 C hQ rfl dX7_part_14 ⟨rfl, rfl, rfl, rfl, rfl, rfl⟩

set_option maxHeartbeats 4000000 in
set_option maxRecDepth 100000 in
theorem mX7_setPart (l : Launch) (G : GG) {z : Nat} {K N : Nat → Nat} {I : MI} {R : MR} {o : Nat} (hM : ShM G z K N R o) {g q v : Int} (hg : 0 ≤ g ∧ g < 6) (hq : 0 ≤ q ∧ q < 36) : Cod l G yX7_setPart (Cond.code yX7_setPart cX7_setPart 4 none :: wsL_law) ⟨0, 0, 0, 0⟩ [.ref o, .int (zI g), .int (zI q), .int (zI v)] z K N I R none (u2 I (o + 1) (20 + 36 * g + q).toNat v) R := by
  refine Con.of (own := RX7) (cc := cX7_setPart) (maxL := 4) (ret := none) (by decide +kernel) rfl rfl (Nat.le_of_ble_eq_true rfl) (by decide) rfl ?_
  intro p e9 s mt args below meth c Q hin hQ C
  obtain ⟨ho, ⟨r0, r1, r3, r4, r5, r7, r8⟩, ⟨k1, k2, k3, k4, k5, k6, k7⟩, n1, n2, n3, n4, n5, n6, n7⟩ := id hM
  refine z_aload_n C dX7_setPart_0 rfl ?_
  refine z_gR C (ci := 7) (k := 0) rfl (by decide) rfl (by decide) wl_7 wq_4_3 (by decide) dX7_setPart_1 (by assumption) (by assumption) ?_
  refine z_bipush C dX7_setPart_4 (by decide) ?_
  refine z_bipush C dX7_setPart_6 (by decide) ?_
  refine z_iload_n C dX7_setPart_8 rfl ?_
  refine z_imul C dX7_setPart_9 ?_
  refine z_iadd C dX7_setPart_10 ?_
  refine z_iload_n C dX7_setPart_11 rfl ?_
  refine z_iadd C dX7_setPart_12 ?_
  refine z_iload_n C dX7_setPart_13 rfl ?_
  refine z_iast C dX7_setPart_14 (by assumption) (by omega) (by omega) ?_
  exact z_vret2 C hQ rfl dX7_setPart_15 ⟨rfl, rfl, rfl, rfl, rfl, rfl⟩

set_option maxHeartbeats 4000000 in
set_option maxRecDepth 100000 in
theorem mX7_truth (l : Launch) (G : GG) {z : Nat} {K N : Nat → Nat} {I : MI} {R : MR} {q e : Int} (hp : 0 ≤ q ∧ q ≤ 14008600) (he : -99 ≤ e ∧ e ≤ 99) : Cod l G yX7_truth (Cond.code yX7_truth cX7_truth 3 (some .int) :: wsL_law) ⟨1, 0, 0, 20⟩ [.int (zI q), .int (zI e)] z K N I R (some (.int (zI (tru q e)))) I R := by
  refine Con.of (own := RX7) (cc := cX7_truth) (maxL := 3) (ret := (some .int)) (by decide +kernel) rfl rfl (Nat.le_of_ble_eq_true rfl) (by decide) rfl ?_
  intro p e9 s mt args below meth c Q hin hQ C
  have hr := tru_rng hp he
  refine z_iload_n C dX7_truth_0 rfl ?_
  refine z_iload_n C dX7_truth_1 rfl ?_
  refine z_callSd C (mX7_size l G (by omega)) (va_cwS 1 C.2.2.2.2.1 gv7_58 rfl rfl rfl hs_X7_size ⟨Nat.le_of_ble_eq_true rfl, Nat.le_of_ble_eq_true rfl⟩) rfl rfl (Nat.le_of_ble_eq_true rfl) dX7_truth_2 ⟨Nat.zero_le _, Nat.zero_le _⟩ ?_
  refine z_imul C dX7_truth_5 ?_
  refine z_sipush C dX7_truth_6 (by decide) ?_
  refine z_idiv C dX7_truth_9 (by omega) (by omega) ?_
  refine z_istore_n C dX7_truth_10 (by decide) rfl ?_
  refine z_iload_n C dX7_truth_11 rfl ?_
  refine z_if_ge C (tgt := 21) dX7_truth_12 (by decide) (by omega) (fun h12 => ?_) (fun h12 => ?_)
  · refine z_iload_n C dX7_truth_21 rfl ?_
    refine z_iload_n C dX7_truth_22 rfl ?_
    refine z_iadd C dX7_truth_23 ?_
    exact z_iret2 C hQ rfl dX7_truth_24 ⟨zr (by unfold tru; first | rw [if_pos (by omega)] | rw [if_neg (by omega)]), rfl, rfl, rfl, rfl, rfl⟩
  · refine z_iload_n C dX7_truth_15 rfl ?_
    refine z_iload_n C dX7_truth_16 rfl ?_
    refine z_isub C dX7_truth_17 ?_
    refine z_goto C (tgt := 24) dX7_truth_18 (by decide) ?_
    exact z_iret2 C hQ rfl dX7_truth_24 ⟨zr (by unfold tru; first | rw [if_pos (by omega)] | rw [if_neg (by omega)]), rfl, rfl, rfl, rfl, rfl⟩

set_option maxHeartbeats 4000000 in
set_option maxRecDepth 100000 in
theorem mX7_goesTo (l : Launch) (G : GG) {z : Nat} {K N : Nat → Nat} {I : MI} {R : MR} {h q e pl : Int} (hp : 0 ≤ q ∧ q ≤ 14008600) (he : -99 ≤ e ∧ e ≤ 99) (hl : 0 ≤ pl ∧ pl ≤ 99) (hh : 0 ≤ h ∧ h ≤ 16000000) : Cod l G yX7_goesTo (Cond.code yX7_goesTo cX7_goesTo 5 (some .int) :: wsL_law) ⟨2, 0, 0, 42⟩ [.int (zI h), .int (zI q), .int (zI e), .int (zI pl)] z K N I R (some (.int (zI (goes h q e pl)))) I R := by
  refine Con.of (own := RX7) (cc := cX7_goesTo) (maxL := 5) (ret := (some .int)) (by decide +kernel) rfl rfl (Nat.le_of_ble_eq_true rfl) (by decide) rfl ?_
  intro p e9 s mt args below meth c Q hin hQ C
  have hr := (tru_rng hp he).2
  refine z_iload_n C dX7_goesTo_0 rfl ?_
  refine z_iload_n C dX7_goesTo_1 rfl ?_
  refine z_callSd C (mX7_truth l G hp he) (va_cwS 2 C.2.2.2.2.1 gv7_61 rfl rfl rfl hs_X7_truth ⟨Nat.le_of_ble_eq_true rfl, Nat.le_of_ble_eq_true rfl⟩) rfl rfl (Nat.le_of_ble_eq_true rfl) dX7_goesTo_2 ⟨Nat.zero_le _, Nat.zero_le _⟩ ?_
  refine z_istore C dX7_goesTo_5 (by decide) rfl ?_
  refine z_iload_n C dX7_goesTo_7 rfl ?_
  refine z_iload C dX7_goesTo_8 rfl ?_
  refine z_iload_n C dX7_goesTo_10 rfl ?_
  refine z_isub C dX7_goesTo_11 ?_
  refine z_icmp_ge C (tgt := 22) dX7_goesTo_12 (by decide) (by omega) (by omega) (fun h12 => ?_) (fun h12 => ?_)
  · refine z_iload_n C dX7_goesTo_22 rfl ?_
    refine z_iload C dX7_goesTo_23 rfl ?_
    refine z_iload_n C dX7_goesTo_25 rfl ?_
    refine z_iadd C dX7_goesTo_26 ?_
    refine z_icmp_le C (tgt := 37) dX7_goesTo_27 (by decide) (by omega) (by omega) (fun h27 => ?_) (fun h27 => ?_)
    · refine z_iload_n C dX7_goesTo_37 rfl ?_
      exact z_iret2 C hQ rfl dX7_goesTo_38 ⟨zr (by unfold goes; (repeat' split) <;> omega), rfl, rfl, rfl, rfl, rfl⟩
    · refine z_iload C dX7_goesTo_30 rfl ?_
      refine z_iload_n C dX7_goesTo_32 rfl ?_
      refine z_iadd C dX7_goesTo_33 ?_
      refine z_goto C (tgt := 38) dX7_goesTo_34 (by decide) ?_
      exact z_iret2 C hQ rfl dX7_goesTo_38 ⟨zr (by unfold goes; (repeat' split) <;> omega), rfl, rfl, rfl, rfl, rfl⟩
  · refine z_iload C dX7_goesTo_15 rfl ?_
    refine z_iload_n C dX7_goesTo_17 rfl ?_
    refine z_isub C dX7_goesTo_18 ?_
    refine z_goto C (tgt := 38) dX7_goesTo_19 (by decide) ?_
    exact z_iret2 C hQ rfl dX7_goesTo_38 ⟨zr (by unfold goes; (repeat' split) <;> omega), rfl, rfl, rfl, rfl, rfl⟩

set_option maxHeartbeats 4000000 in
set_option maxRecDepth 100000 in
theorem mX7_reads (l : Launch) (G : GG) {z : Nat} {K N : Nat → Nat} {I : MI} {R : MR} {h b : Int} (hh : 0 ≤ h ∧ h ≤ 16000000) (hb : 1 ≤ b ∧ b ≤ 99) : Cod l G yX7_reads (Cond.code yX7_reads cX7_reads 2 (some .int) :: wsL_law) ⟨1, 0, 0, 21⟩ [.int (zI h), .int (zI b)] z K N I R (some (.int (zI (rnd h b * b)))) I R := by
  refine Con.of (own := RX7) (cc := cX7_reads) (maxL := 2) (ret := (some .int)) (by decide +kernel) rfl rfl (Nat.le_of_ble_eq_true rfl) (by decide) rfl ?_
  intro p e9 s mt args below meth c Q hin hQ C
  refine z_iload_n C dX7_reads_0 rfl ?_
  refine z_iload_n C dX7_reads_1 rfl ?_
  refine z_callSd C (mX7_rounded l G (by omega) (by omega)) (va_cwS 2 C.2.2.2.2.1 gv7_44 rfl rfl rfl hs_X7_rounded ⟨Nat.le_of_ble_eq_true rfl, Nat.le_of_ble_eq_true rfl⟩) rfl rfl (Nat.le_of_ble_eq_true rfl) dX7_reads_2 ⟨Nat.zero_le _, Nat.zero_le _⟩ ?_
  refine z_iload_n C dX7_reads_5 rfl ?_
  refine z_imul C dX7_reads_6 ?_
  exact z_iret2 C hQ rfl dX7_reads_7 ⟨rfl, rfl, rfl, rfl, rfl, rfl⟩

set_option maxHeartbeats 4000000 in
set_option maxRecDepth 100000 in
theorem mX7_handGoes (l : Launch) (G : GG) {z : Nat} {K N : Nat → Nat} {I : MI} {R : MR} {o : Nat} (hM : ShM G z K N R o) (hO : Ok (I (o + 1))) {g : Nat} (hg : (g : Int) < I (o + 1) 5) : Cod l G yX7_handGoes (Cond.code yX7_handGoes cX7_handGoes 2 none :: wsL_law) ⟨4, 0, 0, 86⟩ [.ref o, .int (zI (g : Int))] z K N I R none (u2 I (o + 1) (23 + 36 * g) (goes (I (o + 1) (23 + 36 * g)) (prsA (I (o + 1)) (I (o + 1) 4)) (I (o + 1) (20 + 36 * g)) (I (o + 1) (21 + 36 * g)))) R := by
  refine Con.of (own := RX7) (cc := cX7_handGoes) (maxL := 2) (ret := none) (by decide +kernel) rfl rfl (Nat.le_of_ble_eq_true rfl) (by decide) rfl ?_
  intro p e9 s mt args below meth c Q hin hQ C
  obtain ⟨ho, ⟨r0, r1, r3, r4, r5, r7, r8⟩, ⟨k1, k2, k3, k4, k5, k6, k7⟩, n1, n2, n3, n4, n5, n6, n7⟩ := id hM
  have h4 := Ok4 hO
  have h5 := hO.2.2.2.2.2.1
  obtain ⟨c1, c2, c3, c4, c5⟩ := hO.2.2.2.2.2.2.2 g hg
  have e3 : (20 + 36 * (g : Int) + 3).toNat = 23 + 36 * g := by omega
  have e0 : (20 + 36 * (g : Int) + 0).toNat = 20 + 36 * g := by omega
  have e1 : (20 + 36 * (g : Int) + 1).toNat = 21 + 36 * g := by omega
  refine z_aload_n C dX7_handGoes_0 rfl ?_
  refine z_iload_n C dX7_handGoes_1 rfl ?_
  refine z_iconst C dX7_handGoes_2 ?_
  refine z_aload_n C dX7_handGoes_3 rfl ?_
  refine z_iload_n C dX7_handGoes_4 rfl ?_
  refine z_iconst C dX7_handGoes_5 ?_
  refine z_callVd C (ci := 7) rfl (by decide) (by assumption) (mX7_part l G hM (by omega) (by omega)) (cwV 2 C.2.2.2.2.1 gv7_64 rfl rfl rfl hd_X7_part ⟨Nat.le_of_ble_eq_true rfl, Nat.le_of_ble_eq_true rfl⟩) rfl rfl (Nat.le_of_ble_eq_true rfl) dX7_handGoes_6 ⟨Nat.zero_le _, Nat.zero_le _⟩ ?_
  refine z_aload_n C dX7_handGoes_9 rfl ?_
  refine z_aload_n C dX7_handGoes_10 rfl ?_
  refine z_gR C (ci := 7) (k := 0) rfl (by decide) rfl (by decide) wl_7 wq_4_3 (by decide) dX7_handGoes_11 (by assumption) (by assumption) ?_
  refine z_iconst C dX7_handGoes_14 ?_
  refine z_ialdk C (4) dX7_handGoes_15 (by assumption) (by first | rfl | omega) (by omega) (by omega) ?_
  refine z_callVd C (ci := 7) rfl (by decide) (by assumption) (mX7_pressureOf l G hM hO (by omega)) (cwV 1 C.2.2.2.2.1 gv7_67 rfl rfl rfl hd_X7_pressureOf ⟨Nat.le_of_ble_eq_true rfl, Nat.le_of_ble_eq_true rfl⟩) rfl rfl (Nat.le_of_ble_eq_true rfl) dX7_handGoes_16 ⟨Nat.zero_le _, Nat.zero_le _⟩ ?_
  refine z_aload_n C dX7_handGoes_19 rfl ?_
  refine z_iload_n C dX7_handGoes_20 rfl ?_
  refine z_iconst C dX7_handGoes_21 ?_
  refine z_callVd C (ci := 7) rfl (by decide) (by assumption) (mX7_part l G hM (by omega) (by omega)) (cwV 2 C.2.2.2.2.1 gv7_64 rfl rfl rfl hd_X7_part ⟨Nat.le_of_ble_eq_true rfl, Nat.le_of_ble_eq_true rfl⟩) rfl rfl (Nat.le_of_ble_eq_true rfl) dX7_handGoes_22 ⟨Nat.zero_le _, Nat.zero_le _⟩ ?_
  refine z_aload_n C dX7_handGoes_25 rfl ?_
  refine z_iload_n C dX7_handGoes_26 rfl ?_
  refine z_iconst C dX7_handGoes_27 ?_
  refine z_callVd C (ci := 7) rfl (by decide) (by assumption) (mX7_part l G hM (by omega) (by omega)) (cwV 2 C.2.2.2.2.1 gv7_64 rfl rfl rfl hd_X7_part ⟨Nat.le_of_ble_eq_true rfl, Nat.le_of_ble_eq_true rfl⟩) rfl rfl (Nat.le_of_ble_eq_true rfl) dX7_handGoes_28 ⟨Nat.zero_le _, Nat.zero_le _⟩ ?_
  rw [e3, e0, e1]
  refine z_callSd C (mX7_goesTo l G (prsA_rng hO _) c1 c2 c4) (va_cwS 4 C.2.2.2.2.1 gv7_70 rfl rfl rfl hs_X7_goesTo ⟨Nat.le_of_ble_eq_true rfl, Nat.le_of_ble_eq_true rfl⟩) rfl rfl (Nat.le_of_ble_eq_true rfl) dX7_handGoes_31 ⟨Nat.zero_le _, Nat.zero_le _⟩ ?_
  refine z_callVd C (ci := 7) rfl (by decide) (by assumption) (mX7_setPart l G hM (by omega) (by omega)) (cwV 3 C.2.2.2.2.1 gv7_74 rfl rfl rfl hd_X7_setPart ⟨Nat.le_of_ble_eq_true rfl, Nat.le_of_ble_eq_true rfl⟩) rfl rfl (Nat.le_of_ble_eq_true rfl) dX7_handGoes_34 ⟨Nat.zero_le _, Nat.zero_le _⟩ ?_
  rw [e3]
  exact z_vret2 C hQ rfl dX7_handGoes_37 ⟨rfl, rfl, rfl, rfl, rfl, rfl⟩

set_option maxHeartbeats 4000000 in
set_option maxRecDepth 100000 in
theorem mX7_handsGo (l : Launch) (G : GG) {z : Nat} {K N : Nat → Nat} {I : MI} {R : MR} {o : Nat} (hM : ShM G z K N R o) (hO : Ok (I (o + 1))) : Cod l G yX7_handsGo (Cond.code yX7_handsGo cX7_handsGo 2 none :: wsL_law) ⟨5, 0, 0, 107⟩ [.ref o] z K N I R none (va_up I (o + 1) (handsF (I (o + 1)))) R := by
  refine Con.of (own := RX7) (cc := cX7_handsGo) (maxL := 2) (ret := none) (by decide +kernel) rfl rfl (Nat.le_of_ble_eq_true rfl) (by decide) rfl ?_
  intro p e9 s mt args below meth c Q hin hQ C
  obtain ⟨ho, ⟨r0, r1, r3, r4, r5, r7, r8⟩, ⟨k1, k2, k3, k4, k5, k6, k7⟩, n1, n2, n3, n4, n5, n6, n7⟩ := id hM
  have h5 := hO.2.2.2.2.2.1
  have h3 := hO.2.2.2.1
  have hloop : ∀ (n : Nat) (i : Nat), (i : Int) ≤ I (o + 1) 5 → I (o + 1) 5 - i < n → Zq p l e9 ⟨5, 0, 0, 107⟩ s mt args below meth c G 2 Q 0 0 z K N (va_up I (o + 1) (handsP (prsA (I (o + 1)) (I (o + 1) 4)) i (I (o + 1)))) R 2 [(0, .ref o), (1, .int (zI (i : Int)))] [] := by
    intro n
    induction n with
    | zero => intro i h1 h2; exact absurd h2 (by omega)
    | succ n ih =>
      intro i h1 h2
      refine z_iload_n C dX7_handsGo_2 rfl ?_
      refine z_aload_n C dX7_handsGo_3 rfl ?_
      refine z_gR C (ci := 7) (k := 0) rfl (by decide) rfl (by decide) wl_7 wq_4_3 (by decide) dX7_handsGo_4 (by assumption) (by assumption) ?_
      refine z_iconst C dX7_handsGo_7 ?_
      refine z_ialdk C (5) dX7_handsGo_8 (by assumption) (by first | rfl | omega) (by omega) (by omega) ?_
      rw [va_up_s, handsP_lo (j := 5) (by omega)]
      refine z_icmp_ge C (tgt := 23) dX7_handsGo_9 (by decide) (by omega) (by omega) (fun h9 => ?_) (fun h9 => ?_)
      · exact z_vret2 C hQ rfl dX7_handsGo_23 ⟨rfl, rfl, rfl, rfl, by rw [show i = (I (o + 1) 5).toNat by omega]; rfl, rfl⟩
      · refine z_aload_n C dX7_handsGo_12 rfl ?_
        refine z_iload_n C dX7_handsGo_13 rfl ?_
        refine z_callVd C (ci := 7) rfl (by decide) (by assumption) (mX7_handGoes l G hM (by rw [va_up_s]; exact hO.hands (prsA_rng hO _) i) (g := i) (by rw [va_up_s, handsP_lo (j := 5) (by omega)]; omega)) (cwV 1 C.2.2.2.2.1 gv7_78 rfl rfl rfl hd_X7_handGoes ⟨Nat.le_of_ble_eq_true rfl, Nat.le_of_ble_eq_true rfl⟩) rfl rfl (Nat.le_of_ble_eq_true rfl) dX7_handsGo_14 ⟨Nat.zero_le _, Nat.zero_le _⟩ ?_
        rw [va_up_s, prsA_cong h3.2 (fun j hj => handsP_lo (by omega)), handsP_lo (j := 4) (by omega), hands_step]
        refine z_iinc C dX7_handsGo_17 rfl (by decide) rfl ?_
        refine z_goto C (tgt := 2) dX7_handsGo_20 (by decide) ?_
        exact ih (i + 1) (by omega) (by omega)
  refine z_iconst C dX7_handsGo_0 ?_
  refine z_istore_n C dX7_handsGo_1 (by decide) rfl ?_
  refine z_mem (I' := va_up I (o + 1) (handsP (prsA (I (o + 1)) (I (o + 1) 4)) 0 (I (o + 1)))) ?_ rfl ?_
  · rw [show handsP (prsA (I (o + 1)) (I (o + 1) 4)) 0 (I (o + 1)) = I (o + 1) from funext fun j => if_neg (by omega), va_upS]
  exact hloop 7 0 (by omega) (by omega)

set_option maxHeartbeats 4000000 in
set_option maxRecDepth 100000 in
theorem mX7_voids (l : Launch) (G : GG) {z : Nat} {K N : Nat → Nat} {I : MI} {R : MR} {o : Nat} (hM : ShM G z K N R o) {g : Nat} (hg : g < 6) : Cod l G yX7_voids (Cond.code yX7_voids cX7_voids 3 none :: wsL_law) ⟨1, 0, 0, 23⟩ [.ref o, .int (zI (g : Int))] z K N I R none (va_up I (o + 1) (voidF g (I (o + 1)))) R := by
  refine Con.of (own := RX7) (cc := cX7_voids) (maxL := 3) (ret := none) (by decide +kernel) rfl rfl (Nat.le_of_ble_eq_true rfl) (by decide) rfl ?_
  intro p e9 s mt args below meth c Q hin hQ C
  obtain ⟨ho, ⟨r0, r1, r3, r4, r5, r7, r8⟩, ⟨k1, k2, k3, k4, k5, k6, k7⟩, n1, n2, n3, n4, n5, n6, n7⟩ := id hM
  have hloop : ∀ (n : Nat) (k : Nat), 4 ≤ k → k ≤ 36 → 36 - k < n → Zq p l e9 ⟨1, 0, 0, 23⟩ s mt args below meth c G 3 Q 0 0 z K N (va_up I (o + 1) (voidK g k (I (o + 1)))) R 2 [(0, .ref o), (1, .int (zI (g : Int))), (2, .int (zI (k : Int)))] [] := by
    intro n
    induction n with
    | zero => intro k h0 h1 h2; exact absurd h2 (by omega)
    | succ n ih =>
      intro k h0 h1 h2
      refine z_iload_n C dX7_voids_2 rfl ?_
      refine z_bipush C dX7_voids_3 (by decide) ?_
      refine z_icmp_ge C (tgt := 21) dX7_voids_5 (by decide) (by omega) (by omega) (fun h5 => ?_) (fun h5 => ?_)
      · exact z_vret2 C hQ rfl dX7_voids_21 ⟨rfl, rfl, rfl, rfl, by rw [show k = 36 by omega]; rfl, rfl⟩
      · refine z_aload_n C dX7_voids_8 rfl ?_
        refine z_iload_n C dX7_voids_9 rfl ?_
        refine z_iload_n C dX7_voids_10 rfl ?_
        refine z_iconst C dX7_voids_11 ?_
        refine z_callVd C (ci := 7) rfl (by decide) (by assumption) (mX7_setPart l G hM (by omega) (by omega)) (cwV 3 C.2.2.2.2.1 gv7_74 rfl rfl rfl hd_X7_setPart ⟨Nat.le_of_ble_eq_true rfl, Nat.le_of_ble_eq_true rfl⟩) rfl rfl (Nat.le_of_ble_eq_true rfl) dX7_voids_12 ⟨Nat.zero_le _, Nat.zero_le _⟩ ?_
        rw [show (20 + 36 * (g : Int) + (k : Int)).toNat = 20 + 36 * g + k by omega, void_step _ _ _ _ _ h0]
        refine z_iinc C dX7_voids_15 rfl (by decide) rfl ?_
        refine z_goto C (tgt := 2) dX7_voids_18 (by decide) ?_
        exact ih (k + 1) (by omega) (by omega) (by omega)
  refine z_iconst C dX7_voids_0 ?_
  refine z_istore_n C dX7_voids_1 (by decide) rfl ?_
  refine z_mem (I' := va_up I (o + 1) (voidK g 4 (I (o + 1)))) (by rw [void_0, va_upS]) rfl ?_
  exact hloop 33 4 (by omega) (by omega) (by omega)

set_option maxHeartbeats 4000000 in
set_option maxRecDepth 100000 in
theorem mX7_voidsAll (l : Launch) (G : GG) {z : Nat} {K N : Nat → Nat} {I : MI} {R : MR} {o : Nat} (hM : ShM G z K N R o) : Cod l G yX7_voidsAll (Cond.code yX7_voidsAll cX7_voidsAll 2 none :: wsL_law) ⟨2, 0, 0, 45⟩ [.ref o] z K N I R none (va_up I (o + 1) (voidsF (I (o + 1)))) R := by
  refine Con.of (own := RX7) (cc := cX7_voidsAll) (maxL := 2) (ret := none) (by decide +kernel) rfl rfl (Nat.le_of_ble_eq_true rfl) (by decide) rfl ?_
  intro p e9 s mt args below meth c Q hin hQ C
  obtain ⟨ho, ⟨r0, r1, r3, r4, r5, r7, r8⟩, ⟨k1, k2, k3, k4, k5, k6, k7⟩, n1, n2, n3, n4, n5, n6, n7⟩ := id hM
  have hloop : ∀ (n : Nat) (i : Nat), i ≤ 6 → 6 - i < n → Zq p l e9 ⟨2, 0, 0, 45⟩ s mt args below meth c G 2 Q 0 0 z K N (va_up I (o + 1) (voidN i (I (o + 1)))) R 2 [(0, .ref o), (1, .int (zI (i : Int)))] [] := by
    intro n
    induction n with
    | zero => intro i h1 h2; exact absurd h2 (by omega)
    | succ n ih =>
      intro i h1 h2
      refine z_iload_n C dX7_voidsAll_2 rfl ?_
      refine z_bipush C dX7_voidsAll_3 (by decide) ?_
      refine z_icmp_ge C (tgt := 19) dX7_voidsAll_5 (by decide) (by omega) (by omega) (fun h5 => ?_) (fun h5 => ?_)
      · exact z_vret2 C hQ rfl dX7_voidsAll_19 ⟨rfl, rfl, rfl, rfl, by rw [show i = 6 by omega]; rfl, rfl⟩
      · refine z_aload_n C dX7_voidsAll_8 rfl ?_
        refine z_iload_n C dX7_voidsAll_9 rfl ?_
        refine z_callVd C (ci := 7) rfl (by decide) (by assumption) (mX7_voids l G hM (g := i) (by omega)) (cwV 1 C.2.2.2.2.1 gv7_82 rfl rfl rfl hd_X7_voids ⟨Nat.le_of_ble_eq_true rfl, Nat.le_of_ble_eq_true rfl⟩) rfl rfl (Nat.le_of_ble_eq_true rfl) dX7_voidsAll_10 ⟨Nat.zero_le _, Nat.zero_le _⟩ ?_
        rw [va_up_s, va_up2, voidN_step]
        refine z_iinc C dX7_voidsAll_13 rfl (by decide) rfl ?_
        refine z_goto C (tgt := 2) dX7_voidsAll_16 (by decide) ?_
        exact ih (i + 1) (by omega) (by omega)
  refine z_iconst C dX7_voidsAll_0 ?_
  refine z_istore_n C dX7_voidsAll_1 (by decide) rfl ?_
  refine z_mem (I' := va_up I (o + 1) (voidN 0 (I (o + 1)))) (by rw [voidN_0, va_upS]) rfl ?_
  exact hloop 7 0 (by omega) (by omega)

set_option maxHeartbeats 4000000 in
set_option maxRecDepth 100000 in
theorem mX7_certificates (l : Launch) (G : GG) {z : Nat} {K N : Nat → Nat} {I : MI} {R : MR} {o : Nat} (hM : ShM G z K N R o) (hO : Ok (I (o + 1))) : Cod l G yX7_certificates (Cond.code yX7_certificates cX7_certificates 3 (some .int) :: wsL_law) ⟨1, 0, 0, 22⟩ [.ref o] z K N I R (some (.int (zI (certN (I (o + 1)) (I (o + 1) 5).toNat)))) I R := by
  refine Con.of (own := RX7) (cc := cX7_certificates) (maxL := 3) (ret := (some .int)) (by decide +kernel) rfl rfl (Nat.le_of_ble_eq_true rfl) (by decide) rfl ?_
  intro p e9 s mt args below meth c Q hin hQ C
  obtain ⟨ho, ⟨r0, r1, r3, r4, r5, r7, r8⟩, ⟨k1, k2, k3, k4, k5, k6, k7⟩, n1, n2, n3, n4, n5, n6, n7⟩ := id hM
  have h5 := hO.2.2.2.2.2.1
  have hloop : ∀ (n : Nat) (i : Nat), (i : Int) ≤ I (o + 1) 5 → I (o + 1) 5 - i < n → Zq p l e9 ⟨1, 0, 0, 22⟩ s mt args below meth c G 3 Q 0 0 z K N I R 4 [(0, .ref o), (1, .int (zI (certN (I (o + 1)) i))), (2, .int (zI (i : Int)))] [] := by
    intro n
    induction n with
    | zero => intro i h1 h2; exact absurd h2 (by omega)
    | succ n ih =>
      intro i h1 h2
      refine z_iload_n C dX7_certificates_4 rfl ?_
      refine z_aload_n C dX7_certificates_5 rfl ?_
      refine z_gR C (ci := 7) (k := 0) rfl (by decide) rfl (by decide) wl_7 wq_4_3 (by decide) dX7_certificates_6 (by assumption) (by assumption) ?_
      refine z_iconst C dX7_certificates_9 ?_
      refine z_ialdk C (5) dX7_certificates_10 (by assumption) (by first | rfl | omega) (by omega) (by omega) ?_
      refine z_icmp_ge C (tgt := 29) dX7_certificates_11 (by decide) (by omega) (by omega) (fun h11 => ?_) (fun h11 => ?_)
      · refine z_iload_n C dX7_certificates_29 rfl ?_
        exact z_iret2 C hQ rfl dX7_certificates_30 ⟨zr (by rw [show i = (I (o + 1) 5).toNat by omega]), rfl, rfl, rfl, rfl, rfl⟩
      · refine z_iload_n C dX7_certificates_14 rfl ?_
        refine z_aload_n C dX7_certificates_15 rfl ?_
        refine z_iload_n C dX7_certificates_16 rfl ?_
        refine z_iconst C dX7_certificates_17 ?_
        refine z_callVd C (ci := 7) rfl (by decide) (by assumption) (mX7_part l G hM (by omega) (by omega)) (cwV 2 C.2.2.2.2.1 gv7_64 rfl rfl rfl hd_X7_part ⟨Nat.le_of_ble_eq_true rfl, Nat.le_of_ble_eq_true rfl⟩) rfl rfl (Nat.le_of_ble_eq_true rfl) dX7_certificates_18 ⟨Nat.zero_le _, Nat.zero_le _⟩ ?_
        rw [show (20 + 36 * (i : Int) + 4).toNat = 24 + 36 * i by omega]
        refine z_iadd C dX7_certificates_21 ?_
        refine z_istore_n C dX7_certificates_22 (by decide) rfl ?_
        refine z_iinc C dX7_certificates_23 rfl (by decide) rfl ?_
        refine z_goto C (tgt := 4) dX7_certificates_26 (by decide) ?_
        exact ih (i + 1) (by omega) (by omega)
  refine z_iconst C dX7_certificates_0 ?_
  refine z_istore_n C dX7_certificates_1 (by decide) rfl ?_
  refine z_iconst C dX7_certificates_2 ?_
  refine z_istore_n C dX7_certificates_3 (by decide) rfl ?_
  exact hloop 7 0 (by omega) (by omega)

set_option maxHeartbeats 4000000 in
set_option maxRecDepth 100000 in
theorem mX7_moves (l : Launch) (G : GG) {z : Nat} {K N : Nat → Nat} {I : MI} {R : MR} {a b f t : Nat} (ha : zK G z K a 9) (hb : zK G z K b 9) (hab : a ≠ b) (hf : f + 236 ≤ N a) (ht : t + 236 ≤ N b) (hNa : N a < 10000) (hNb : N b < 10000) : Cod l G yX7_moves (Cond.code yX7_moves cX7_moves 5 none :: wsL_law) ⟨0, 0, 0, 0⟩ [.ref a, .int (zI (f : Int)), .ref b, .int (zI (t : Int))] z K N I R none (va_up I b (movF (I a) (I b) f t)) R := by
  refine Con.of (own := RX7) (cc := cX7_moves) (maxL := 5) (ret := none) (by decide +kernel) rfl rfl (Nat.le_of_ble_eq_true rfl) (by decide) rfl ?_
  intro p e9 s mt args below meth c Q hin hQ C
  have hloop : ∀ (n : Nat) (k : Nat), k ≤ 236 → 236 - k < n → Zq p l e9 ⟨0, 0, 0, 0⟩ s mt args below meth c G 5 Q 0 0 z K N (va_up I b (fun j => if t ≤ j ∧ j < t + k then I a (f + (j - t)) else I b j)) R 3 [(0, .ref a), (1, .int (zI (f : Int))), (2, .ref b), (3, .int (zI (t : Int))), (4, .int (zI (k : Int)))] [] := by
    intro n
    induction n with
    | zero => intro k h1 h2; exact absurd h2 (by omega)
    | succ n ih =>
      intro k h1 h2
      refine z_iload C dX7_moves_3 rfl ?_
      refine z_sipush C dX7_moves_5 (by decide) ?_
      refine z_icmp_ge C (tgt := 29) dX7_moves_8 (by decide) (by omega) (by omega) (fun h8 => ?_) (fun h8 => ?_)
      · exact z_vret2 C hQ rfl dX7_moves_29 ⟨rfl, rfl, rfl, rfl, by rw [show k = 236 by omega]; rfl, rfl⟩
      · refine z_aload_n C dX7_moves_11 rfl ?_
        refine z_iload_n C dX7_moves_12 rfl ?_
        refine z_iload C dX7_moves_13 rfl ?_
        refine z_iadd C dX7_moves_15 ?_
        refine z_aload_n C dX7_moves_16 rfl ?_
        refine z_iload_n C dX7_moves_17 rfl ?_
        refine z_iload C dX7_moves_18 rfl ?_
        refine z_iadd C dX7_moves_20 ?_
        refine z_ialdk C (f + k) dX7_moves_21 (by assumption) (by first | rfl | omega) (by omega) (by omega) ?_
        rw [va_up_n hab]
        refine z_iastk C (t + k) dX7_moves_22 (by assumption) (by first | rfl | omega) (by omega) (by omega) ?_
        rw [u2_va]
        refine z_mem (I' := va_up I b (fun j => if t ≤ j ∧ j < t + (k + 1) then I a (f + (j - t)) else I b j)) ?_ rfl ?_
        · congr 1
          funext j
          by_cases hj : j = t + k
          · rw [if_pos hj, if_pos (by omega), hj, show t + k - t = k by omega]
          · rw [if_neg hj]
            by_cases h : t ≤ j ∧ j < t + k
            · rw [if_pos h, if_pos (by omega)]
            · rw [if_neg h, if_neg (by omega)]
        refine z_iinc C dX7_moves_23 rfl (by decide) rfl ?_
        refine z_goto C (tgt := 3) dX7_moves_26 (by decide) ?_
        exact ih (k + 1) (by omega) (by omega)
  refine z_iconst C dX7_moves_0 ?_
  refine z_istore C dX7_moves_1 (by decide) rfl ?_
  refine z_mem (I' := va_up I b (fun j => if t ≤ j ∧ j < t + 0 then I a (f + (j - t)) else I b j)) ?_ rfl (hloop 237 0 (by omega) (by omega))
  rw [show (fun j => if t ≤ j ∧ j < t + 0 then I a (f + (j - t)) else I b j) = I b from funext fun j => if_neg (by omega), va_upS]
end
section
section ZX
variable {p : Program} {l : Launch} {e : Env} {Rm : Room} {s : State} {m : MethodId} {args : Array Value} {below : List Frame} {meth : Method} {c : Code} {G : GG} {cc : ByteArray} {nL : Nat} {own : String} {ret : Option FieldType}
variable {Q : State → Prop} {cells slots z : Nat} {K N : Nat → Nat} {I : MI} {R : MR} {pc : Nat} {lv : List (Nat × Value)} {st : List Value}
theorem z_sub (ks : List Nat) {lv' : List (Nat × Value)} (h : lv_pick lv ks = lv') (h2 : lvd lv' = true) (k : Zq p l e Rm s m args below meth c G nL Q cells slots z K N I R pc lv' st) : Zq p l e Rm s m args below meth c G nL Q cells slots z K N I R pc lv st := fun H locs ls hW hL hl _ => k H locs ls hW hL (lv_sub hl ks h) h2
theorem z_ixor1 (C : Cx p l e Rm s m args below meth c G cc nL own ret) {x y v : Int32} (d : decode cc pc = .ok (.ixor, 1)) (hv : x ^^^ y = v) (k : Zq p l e Rm s m args below meth c G nL Q cells slots z K N I R (pc + 1) lv (.int v :: st)) : Zq p l e Rm s m args below meth c G nL Q cells slots z K N I R pc lv (.int y :: .int x :: st) := z_ixor C d hv k
end ZX
/-- one bit of a set turned over, or taken out -/
def flipb (a : Int) (r : Nat) : Int := if a / 2 ^ r % 2 = 1 then a - 2 ^ r else a + 2 ^ r
def clrb (a : Int) (r : Nat) : Int := if a / 2 ^ r % 2 = 1 then a - 2 ^ r else a
theorem b2i_r {p : Prop} [Decidable p] : -2147483648 ≤ b2i p ∧ b2i p < 2147483648 := by unfold b2i; split <;> omega
theorem b2i_0 {p : Prop} [Decidable p] : b2i p = 0 ↔ ¬ p := by unfold b2i; split <;> simp_all
theorem b2i_1 {p : Prop} [Decidable p] : ¬ b2i p = 0 ↔ p := by unfold b2i; split <;> simp_all
theorem b2i_iff {p q : Prop} [Decidable p] [Decidable q] (h : p ↔ q) : b2i p = b2i q := by
  unfold b2i
  by_cases hp : p
  · rw [if_pos hp, if_pos (h.mp hp)]
  · rw [if_neg hp, if_neg (fun z => hp (h.mpr z))]
theorem natbit (n r : Nat) : ((n : Int) / 2 ^ r % 2 = 1) ↔ n.testBit r = true := by
  have h : (n : Int) / 2 ^ r % 2 = ((n / 2 ^ r % 2 : Nat) : Int) := by push_cast; rfl
  rw [h, Nat.testBit_eq_decide_div_mod_eq, decide_eq_true_eq]
  omega
theorem x_split {r a b s t : Nat} (hs : s < 2 ^ r) (ht : t < 2 ^ r) : (2 ^ r * a + s) ^^^ (2 ^ r * b + t) = 2 ^ r * (a ^^^ b) + (s ^^^ t) := by
  apply Nat.eq_of_testBit_eq
  intro j
  rw [Nat.testBit_xor, Nat.testBit_two_pow_mul_add a hs, Nat.testBit_two_pow_mul_add b ht, Nat.testBit_two_pow_mul_add (a ^^^ b) (Nat.xor_lt_two_pow hs ht)]
  split <;> rw [Nat.testBit_xor]
theorem x_one (m : Nat) : m ^^^ 1 = if m % 2 = 1 then m - 1 else m + 1 := by
  have h := x_split (r := 1) (a := m / 2) (b := 0) (s := m % 2) (t := 1) (by omega) (by omega)
  have e1 : 2 ^ 1 * (m / 2) + m % 2 = m := by omega
  have e2 : 2 ^ 1 * 0 + 1 = 1 := by omega
  rw [e1, e2, Nat.xor_zero] at h
  rw [h]
  rcases (show m % 2 = 0 ∨ m % 2 = 1 by omega) with e | e
  · rw [e, if_neg (by omega)]
    have : (0 : Nat) ^^^ 1 = 1 := by decide
    omega
  · rw [e, if_pos rfl]
    have : (1 : Nat) ^^^ 1 = 0 := by decide
    omega
theorem nat_flip (n r : Nat) : ((n ^^^ 2 ^ r : Nat) : Int) = flipb n r := by
  have hp : 0 < 2 ^ r := Nat.two_pow_pos r
  have h := x_split (r := r) (a := n / 2 ^ r) (b := 1) (s := n % 2 ^ r) (t := 0) (Nat.mod_lt _ hp) hp
  rw [Nat.div_add_mod, Nat.mul_one, Nat.add_zero, Nat.xor_zero, x_one] at h
  rw [h]
  have hb : ((n : Int) / 2 ^ r % 2 = 1) ↔ n / 2 ^ r % 2 = 1 := by
    rw [natbit, Nat.testBit_eq_decide_div_mod_eq, decide_eq_true_eq]
  have hd := Nat.div_add_mod n (2 ^ r)
  have hq : ((2 ^ r : Nat) : Int) = 2 ^ r := by push_cast; rfl
  unfold flipb
  by_cases hc : n / 2 ^ r % 2 = 1
  · rw [if_pos hc, if_pos (hb.mpr hc)]
    obtain ⟨k, hk⟩ : ∃ k, n / 2 ^ r = k + 1 := ⟨n / 2 ^ r - 1, by generalize n / 2 ^ r = x at hc; omega⟩
    rw [hk, Nat.add_sub_cancel]
    rw [hk, Nat.mul_add, Nat.mul_one] at hd
    rw [← hq]
    omega
  · rw [if_neg hc, if_neg (fun z => hc (hb.mp z)), Nat.mul_add, Nat.mul_one]
    rw [← hq]
    omega
theorem zI_pow (r : Nat) : zI (2 ^ r) = nI (2 ^ r) := by
  have hq : ((2 ^ r : Nat) : Int) = 2 ^ r := by push_cast; rfl
  rw [← hq]; rfl
theorem nx_xor (a b : Nat) : nI a ^^^ nI b = nI (a ^^^ b) := by
  apply Int32.toBitVec_inj.1
  show BitVec.ofNat 32 a ^^^ BitVec.ofNat 32 b = BitVec.ofNat 32 (a ^^^ b)
  apply BitVec.eq_of_getLsbD_eq
  intro i hi
  simp [hi]
theorem nx_or (a b : Nat) : nI a ||| nI b = nI (a ||| b) := by
  apply Int32.toBitVec_inj.1
  show BitVec.ofNat 32 a ||| BitVec.ofNat 32 b = BitVec.ofNat 32 (a ||| b)
  apply BitVec.eq_of_getLsbD_eq
  intro i hi
  simp [hi]
theorem nx_and (a b : Nat) : nI a &&& nI b = nI (a &&& b) := by
  apply Int32.toBitVec_inj.1
  show BitVec.ofNat 32 a &&& BitVec.ofNat 32 b = BitVec.ofNat 32 (a &&& b)
  apply BitVec.eq_of_getLsbD_eq
  intro i hi
  simp [hi]
theorem zI_xorb {a : Int} (ha : 0 ≤ a) (r : Nat) : zI a ^^^ zI (2 ^ r) = zI (flipb a r) := by
  obtain ⟨n, rfl⟩ := Int.eq_ofNat_of_zero_le ha
  rw [zI_nI, zI_pow, nx_xor, ← nat_flip]
  rfl
theorem nat_or (n r : Nat) (h : n.testBit r = false) : n ||| 2 ^ r = n ^^^ 2 ^ r := by
  apply Nat.eq_of_testBit_eq
  intro j
  rw [Nat.testBit_or, Nat.testBit_xor, Nat.testBit_two_pow]
  by_cases hj : r = j
  · subst hj; simp [h]
  · simp [hj]
theorem zI_orb {a : Int} (ha : 0 ≤ a) {r : Nat} (h : ¬ a / 2 ^ r % 2 = 1) : zI a ||| zI (2 ^ r) = zI (a + 2 ^ r) := by
  obtain ⟨n, rfl⟩ := Int.eq_ofNat_of_zero_le ha
  have hb : n.testBit r = false := by
    cases hc : n.testBit r with
    | false => rfl
    | true => exact absurd ((natbit n r).mpr hc) h
  rw [zI_nI, zI_pow, nx_or, nat_or n r hb, ← zI_nI, nat_flip]
  unfold flipb
  rw [if_neg h]
theorem nat_clr {n r : Nat} : nI n &&& (nI (2 ^ r) ^^^ zI (-1)) = nI (if n.testBit r = true then n ^^^ 2 ^ r else n) := by
  apply Int32.toBitVec_inj.1
  have hm : (zI (-1)).toBitVec = BitVec.allOnes 32 := by decide +kernel
  rw [Int32.toBitVec_and, Int32.toBitVec_xor, hm]
  show BitVec.ofNat 32 n &&& (BitVec.ofNat 32 (2 ^ r) ^^^ _) = BitVec.ofNat 32 _
  apply BitVec.eq_of_getLsbD_eq
  intro i hi
  by_cases hb : n.testBit r = true
  · rw [if_pos hb]
    simp only [BitVec.getLsbD_and, BitVec.getLsbD_xor, BitVec.getLsbD_ofNat, BitVec.getLsbD_allOnes, hi, decide_true, Bool.true_and, Nat.testBit_xor, Nat.testBit_two_pow]
    by_cases hj : r = i
    · subst hj; rw [hb]; simp
    · simp [hj]
  · rw [if_neg hb]
    simp only [BitVec.getLsbD_and, BitVec.getLsbD_xor, BitVec.getLsbD_ofNat, BitVec.getLsbD_allOnes, hi, decide_true, Bool.true_and, Nat.testBit_xor, Nat.testBit_two_pow]
    by_cases hj : r = i
    · subst hj
      have hb : n.testBit r = false := by simpa using hb
      rw [hb]; simp
    · simp [hj]
theorem zI_clrb {a : Int} (ha : 0 ≤ a) (r : Nat) : zI a &&& (zI (2 ^ r) ^^^ zI (-1)) = zI (clrb a r) := by
  obtain ⟨n, rfl⟩ := Int.eq_ofNat_of_zero_le ha
  rw [zI_nI, zI_pow, nat_clr]
  unfold clrb
  by_cases hb : n.testBit r = true
  · rw [if_pos hb, if_pos ((natbit n r).mpr hb), ← zI_nI, nat_flip]
    unfold flipb
    rw [if_pos ((natbit n r).mpr hb)]
  · rw [if_neg hb, if_neg (fun z => hb ((natbit n r).mp z))]
    rfl
end
section
/-! the model's changes, row by row -/
abbrev isVal (s v : Int) : Prop := (s = 0 ∧ 0 ≤ v ∧ v ≤ 9) ∨ (s = 1 ∧ 1 ≤ v ∧ v ≤ 99) ∨ (s = 2 ∧ 0 ≤ v ∧ v ≤ 999)
def setsV (f : Nat → Int) (s : Nat) (v : Int) : Nat → Int := if s = 1 then voidsF (st1 f s v) else st1 f s v
def setsF (f : Nat → Int) (s : Nat) (v : Int) : Nat → Int := handsF (setsV f s v)
def comesF (f : Nat → Int) (v : Int) : Nat → Int := voidsF (st1 (st1 f (6 + (f 3).toNat) v) 3 (f 3 + 1))
def loseV (f : Nat → Int) : Nat → Int := voidsF (st1 (st1 (st1 f 3 (f 3 - 1)) (6 + (f 3 - 1).toNat) 0) 4 (clrb (f 4) (f 3 - 1).toNat))
def loseF (f : Nat → Int) : Nat → Int := handsF (loseV f)
def movV (f : Nat → Int) (r : Nat) : Nat → Int := st1 f 4 (flipb (f 4) r)
def moveF (f : Nat → Int) (r : Nat) : Nat → Int := handsF (movV f r)
def zeroK (g k : Nat) (f : Nat → Int) : Nat → Int := fun j => if 20 + 36 * g ≤ j ∧ j < 20 + 36 * g + k then 0 else f j
def handG (f : Nat → Int) (g : Nat) : Nat → Int := st1 f (23 + 36 * g) (goes (f (23 + 36 * g)) (prsA f (f 4)) (f (20 + 36 * g)) (f (21 + 36 * g)))
def gaugeV (f : Nat → Int) (g : Nat) (e p s : Int) : Nat → Int := st1 (st1 (st1 (st1 (zeroK g 36 f) (20 + 36 * g) e) (21 + 36 * g) p) (22 + 36 * g) s) 5 (f 5 + 1)
def gaugeF (f : Nat → Int) (e p s : Int) : Nat → Int := handG (gaugeV f (f 5).toNat e p s) (f 5).toNat
def tuneV (f : Nat → Int) (g : Nat) (e : Int) : Nat → Int := voidF g (st1 f (20 + 36 * g) e)
def tuneF (f : Nat → Int) (g : Nat) (e : Int) : Nat → Int := handG (tuneV f g e) g
theorem Ok.set {f : Nat → Int} (h : Ok f) {s : Nat} {v : Int} (hv : isVal s v) : Ok (st1 f s v) := by
  obtain ⟨a0, a1, a2, a3, a4, a5, a6, a7⟩ := h
  have h2 : ∀ j : Nat, 3 ≤ j → st1 f s v j = f j := fun j hj => st1_n (by rcases hv with h | h | h <;> omega)
  unfold Ok
  rw [h2 3 (by omega), h2 4 (by omega), h2 5 (by omega)]
  refine ⟨?_, ?_, ?_, a3, a4, a5, fun r hr => by rw [h2 _ (by omega)]; exact a6 r hr, fun g hg => by rw [h2 _ (by omega), h2 _ (by omega), h2 _ (by omega), h2 _ (by omega), h2 _ (by omega)]; exact a7 g hg⟩
  · unfold st1; split
    · rcases hv with h | h | h <;> omega
    · exact a0
  · unfold st1; split
    · rcases hv with h | h | h <;> omega
    · exact a1
  · unfold st1; split
    · rcases hv with h | h | h <;> omega
    · exact a2
theorem Ok.h_setsV {f : Nat → Int} (h : Ok f) {s : Nat} {v : Int} (hv : isVal s v) : Ok (setsV f s v) := by
  unfold setsV
  split
  · exact (h.set hv).voids
  · exact h.set hv
theorem Ok.h_handsF {f : Nat → Int} (h : Ok f) : Ok (handsF f) := h.hands (prsA_rng h _) _
theorem pow_le {a b : Nat} (h : a ≤ b) : (2 : Int) ^ a ≤ 2 ^ b := by
  have h1 := Nat.pow_le_pow_right (show 0 < 2 by omega) h
  have e : ∀ n : Nat, ((2 ^ n : Nat) : Int) = 2 ^ n := fun n => by push_cast; rfl
  rw [← e, ← e]
  exact_mod_cast h1
theorem pow_pos2 (a : Nat) : (0 : Int) < 2 ^ a := by
  have := pow_le (Nat.zero_le a)
  have e : (2 : Int) ^ 0 = 1 := rfl
  omega
theorem pow_s (a : Nat) : (2 : Int) ^ (a + 1) = 2 * 2 ^ a := by rw [Int.pow_succ, Int.mul_comm]
theorem Ok.comes {f : Nat → Int} (h : Ok f) (h14 : f 3 < 14) {v : Int} (hv : 1 ≤ v ∧ v ≤ 9999) : Ok (comesF f v) := by
  refine Ok.voids ?_
  obtain ⟨a0, a1, a2, a3, a4, a5, a6, a7⟩ := h
  have h2 : ∀ j : Nat, j ≠ 3 → j ≠ 6 + (f 3).toNat → st1 (st1 f (6 + (f 3).toNat) v) 3 (f 3 + 1) j = f j := fun j h1 h2 => by rw [st1_n h1, st1_n h2]
  unfold Ok
  rw [st1_s, h2 0 (by omega) (by omega), h2 1 (by omega) (by omega), h2 2 (by omega) (by omega), h2 4 (by omega) (by omega), h2 5 (by omega) (by omega)]
  refine ⟨a0, a1, a2, by omega, ?_, a5, fun r hr => ?_, fun g hg => by rw [h2 _ (by omega) (by omega), h2 _ (by omega) (by omega), h2 _ (by omega) (by omega), h2 _ (by omega) (by omega), h2 _ (by omega) (by omega)]; exact a7 g hg⟩
  · rw [show (f 3 + 1).toNat = (f 3).toNat + 1 by omega, pow_s]
    omega
  · rw [st1_n (by omega)]
    by_cases hr2 : r = (f 3).toNat
    · rw [hr2, st1_s]; exact hv
    · rw [st1_n (by omega)]; exact a6 r (by omega)
theorem flip_rng {a : Int} {r n : Nat} (ha : 0 ≤ a ∧ a < 2 ^ n) (hr : r < n) : 0 ≤ flipb a r ∧ flipb a r < 2 ^ n := by
  obtain ⟨k, rfl⟩ := Int.eq_ofNat_of_zero_le ha.1
  have e : ∀ n : Nat, ((2 ^ n : Nat) : Int) = 2 ^ n := fun n => by push_cast; rfl
  have hk : k < 2 ^ n := by have := ha.2; rw [← e] at this; exact_mod_cast this
  rw [← nat_flip]
  have h1 : k ^^^ 2 ^ r < 2 ^ n := Nat.xor_lt_two_pow hk (Nat.pow_lt_pow_right (by omega) hr)
  rw [← e]
  exact ⟨by omega, by exact_mod_cast h1⟩
theorem clr_rng {a : Int} {n : Nat} (ha : 0 ≤ a ∧ a < 2 ^ (n + 1)) : 0 ≤ clrb a n ∧ clrb a n < 2 ^ n := by
  rw [pow_s] at ha
  have hp := pow_pos2 n
  have hd := Int.mul_ediv_add_emod a (2 ^ n)
  have hm0 := Int.emod_nonneg a (show (2 : Int) ^ n ≠ 0 by omega)
  have hm1 := Int.emod_lt_of_pos a hp
  have hq0 : 0 ≤ a / 2 ^ n := Int.ediv_nonneg ha.1 (by omega)
  have hq1 : a / 2 ^ n < 2 := Int.ediv_lt_of_lt_mul hp (by omega)
  unfold clrb
  rcases (show a / 2 ^ n = 0 ∨ a / 2 ^ n = 1 by omega) with e | e
  · rw [e] at hd ⊢
    rw [if_neg (by omega)]
    rw [Int.mul_zero] at hd
    omega
  · rw [e] at hd ⊢
    rw [if_pos (by omega)]
    rw [Int.mul_one] at hd
    omega
theorem Ok.h_loseV {f : Nat → Int} (h : Ok f) (h0 : 0 < f 3) : Ok (loseV f) := by
  refine Ok.voids ?_
  obtain ⟨a0, a1, a2, a3, a4, a5, a6, a7⟩ := h
  have h2 : ∀ j : Nat, j ≠ 3 → j ≠ 4 → j ≠ 6 + (f 3 - 1).toNat → st1 (st1 (st1 f 3 (f 3 - 1)) (6 + (f 3 - 1).toNat) 0) 4 (clrb (f 4) (f 3 - 1).toNat) j = f j := fun j h1 h2 h3 => by rw [st1_n h2, st1_n h3, st1_n h1]
  have h3 : st1 (st1 (st1 f 3 (f 3 - 1)) (6 + (f 3 - 1).toNat) 0) 4 (clrb (f 4) (f 3 - 1).toNat) 3 = f 3 - 1 := by rw [st1_n (by omega), st1_n (by omega), st1_s]
  unfold Ok
  rw [h3, st1_s, h2 0 (by omega) (by omega) (by omega), h2 1 (by omega) (by omega) (by omega), h2 2 (by omega) (by omega) (by omega), h2 5 (by omega) (by omega) (by omega)]
  refine ⟨a0, a1, a2, by omega, ?_, a5, fun r hr => by rw [h2 _ (by omega) (by omega) (by omega)]; exact a6 r (by omega), fun g hg => by rw [h2 _ (by omega) (by omega) (by omega), h2 _ (by omega) (by omega) (by omega), h2 _ (by omega) (by omega) (by omega), h2 _ (by omega) (by omega) (by omega), h2 _ (by omega) (by omega) (by omega)]; exact a7 g hg⟩
  exact clr_rng (by rw [show (f 3 - 1).toNat + 1 = (f 3).toNat by omega]; exact a4)
theorem Ok.h_movV {f : Nat → Int} (h : Ok f) {r : Nat} (hr : (r : Int) < f 3) : Ok (movV f r) := by
  obtain ⟨a0, a1, a2, a3, a4, a5, a6, a7⟩ := h
  have h2 : ∀ j : Nat, j ≠ 4 → movV f r j = f j := fun j h1 => st1_n h1
  unfold Ok
  rw [h2 0 (by omega), h2 1 (by omega), h2 2 (by omega), h2 3 (by omega), h2 5 (by omega)]
  refine ⟨a0, a1, a2, a3, ?_, a5, fun q hq => by rw [h2 _ (by omega)]; exact a6 q hq, fun g hg => by rw [h2 _ (by omega), h2 _ (by omega), h2 _ (by omega), h2 _ (by omega), h2 _ (by omega)]; exact a7 g hg⟩
  rw [show movV f r 4 = flipb (f 4) r from st1_s _ _ _]
  exact flip_rng a4 (by omega)
theorem Ok.h_gaugeV {f : Nat → Int} (h : Ok f) (h6 : f 5 < 6) {e p s : Int} (he : -99 ≤ e ∧ e ≤ 99) (hp : 0 ≤ p ∧ p ≤ 99) (hs : 1 ≤ s ∧ s ≤ 99) : Ok (gaugeV f (f 5).toNat e p s) := by
  obtain ⟨a0, a1, a2, a3, a4, a5, a6, a7⟩ := h
  have h2 : ∀ j : Nat, j ≠ 5 → (j < 20 + 36 * (f 5).toNat ∨ 56 + 36 * (f 5).toNat ≤ j) → gaugeV f (f 5).toNat e p s j = f j := fun j h1 h2 => by
    unfold gaugeV
    rw [st1_n h1, st1_n (by omega), st1_n (by omega), st1_n (by omega)]
    exact if_neg (by omega)
  unfold Ok
  rw [h2 0 (by omega) (by omega), h2 1 (by omega) (by omega), h2 2 (by omega) (by omega), h2 3 (by omega) (by omega), h2 4 (by omega) (by omega), show gaugeV f (f 5).toNat e p s 5 = f 5 + 1 from st1_s _ _ _]
  refine ⟨a0, a1, a2, a3, a4, by omega, fun q hq => by rw [h2 _ (by omega) (by omega)]; exact a6 q hq, fun g hg => ?_⟩
  by_cases hg2 : g = (f 5).toNat
  · subst hg2
    unfold gaugeV
    refine ⟨?_, ?_, ?_, ?_, ?_⟩
    · rw [st1_n (by omega), st1_n (by omega), st1_n (by omega), st1_s]; exact he
    · rw [st1_n (by omega), st1_n (by omega), st1_s]; exact hp
    · rw [st1_n (by omega), st1_s]; exact hs
    · rw [st1_n (by omega), st1_n (by omega), st1_n (by omega), st1_n (by omega), show zeroK (f 5).toNat 36 f (23 + 36 * (f 5).toNat) = 0 from if_pos (by omega)]; omega
    · rw [st1_n (by omega), st1_n (by omega), st1_n (by omega), st1_n (by omega)]; exact Or.inl (if_pos (by omega))
  · rw [h2 _ (by omega) (by omega), h2 _ (by omega) (by omega), h2 _ (by omega) (by omega), h2 _ (by omega) (by omega), h2 _ (by omega) (by omega)]
    exact a7 g (by omega)
theorem Ok.h_handG {f : Nat → Int} (h : Ok f) {g : Nat} (hg : (g : Int) < f 5) : Ok (handG f g) := by
  obtain ⟨c1, c2, c3, c4, c5⟩ := h.2.2.2.2.2.2.2 g hg
  refine h.cong (fun j hj => st1_n (by omega)) fun q hq => ?_
  obtain ⟨d1, d2, d3, d4, d5⟩ := h.2.2.2.2.2.2.2 q hq
  refine ⟨st1_n (by omega), st1_n (by omega), st1_n (by omega), ?_, ?_⟩
  · unfold handG st1
    split
    · exact goes_rng (prsA_rng h _) c1 c2 c4
    · exact d4
  · rw [show handG f g (24 + 36 * q) = f (24 + 36 * q) from st1_n (by omega)]; exact d5
theorem Ok.h_tuneV {f : Nat → Int} (h : Ok f) (g : Nat) {e : Int} (he : -99 ≤ e ∧ e ≤ 99) : Ok (tuneV f g e) := by
  refine Ok.voidG ?_ g
  obtain ⟨a0, a1, a2, a3, a4, a5, a6, a7⟩ := h
  have h2 : ∀ j : Nat, j ≠ 20 + 36 * g → st1 f (20 + 36 * g) e j = f j := fun j h1 => st1_n h1
  unfold Ok
  rw [h2 0 (by omega), h2 1 (by omega), h2 2 (by omega), h2 3 (by omega), h2 4 (by omega), h2 5 (by omega)]
  refine ⟨a0, a1, a2, a3, a4, a5, fun q hq => by rw [h2 _ (by omega)]; exact a6 q hq, fun q hq => ?_⟩
  obtain ⟨d1, d2, d3, d4, d5⟩ := a7 q hq
  rw [h2 (21 + 36 * q) (by omega), h2 (22 + 36 * q) (by omega), h2 (23 + 36 * q) (by omega), h2 (24 + 36 * q) (by omega)]
  refine ⟨?_, d2, d3, d4, d5⟩
  unfold st1
  split
  · exact he
  · exact d1
end
section
set_option maxHeartbeats 4000000 in
set_option maxRecDepth 100000 in
theorem mX7_record (l : Launch) (G : GG) {z : Nat} {K N : Nat → Nat} {I : MI} {R : MR} {o : Nat} (hM : ShM G z K N R o) (hR : 0 ≤ I o 2 ∧ I o 2 ≤ 6) : Cod l G yX7_record (Cond.code yX7_record cX7_record 2 none :: wsL_law) ⟨1, 0, 0, 24⟩ [.ref o] z K N I R none (recM I o) R := by
  refine Con.of (own := RX7) (cc := cX7_record) (maxL := 2) (ret := none) (by decide +kernel) rfl rfl (Nat.le_of_ble_eq_true rfl) (by decide) rfl ?_
  intro p e9 s mt args below meth c Q hin hQ C
  obtain ⟨ho, ⟨r0, r1, r3, r4, r5, r7, r8⟩, ⟨k1, k2, k3, k4, k5, k6, k7⟩, n1, n2, n3, n4, n5, n6, n7⟩ := id hM
  have q1 : o + 1 ≠ o := by omega
  have q2 : o + 2 ≠ o := by omega
  have q12 : o + 1 ≠ o + 2 := by omega
  have q02 : o ≠ o + 2 := by omega
  have q01 : o ≠ o + 1 := by omega
  have hjoin : ∀ J : MI, J = u2 (va_up I (o + 2) (recS (I (o + 2)) (I o 2))) o 2 (recN (I o 2)) → Zq p l e9 ⟨1, 0, 0, 24⟩ s mt args below meth c G 2 Q 0 0 z K N J R 50 [(0, .ref o)] [] := by
    intro J hJ
    obtain ⟨t, ht⟩ : ∃ t : Nat, recN (I o 2) * 236 = (t : Int) ∧ t + 236 ≤ 1416 := by
      refine ⟨(recN (I o 2) * 236).toNat, ?_, ?_⟩ <;> unfold recN <;> split <;> omega
    have j2 : J o 2 = recN (I o 2) := by rw [hJ, u2_s]
    have jr1 : J (o + 1) = I (o + 1) := by rw [hJ, u2_row q1, va_up_n q12]
    have jr2 : J (o + 2) = recS (I (o + 2)) (I o 2) := by rw [hJ, u2_row q2, va_up_s]
    refine z_aload_n C dX7_record_50 rfl ?_
    refine z_gR C (ci := 7) (k := 0) rfl (by decide) rfl (by decide) wl_7 wq_4_3 (by decide) dX7_record_51 (by assumption) (by assumption) ?_
    refine z_iconst C dX7_record_54 ?_
    refine z_aload_n C dX7_record_55 rfl ?_
    refine z_gR C (ci := 7) (k := 1) rfl (by decide) rfl (by decide) wl_7 wq_4_4 (by decide) dX7_record_56 (by assumption) (by assumption) ?_
    refine z_aload_n C dX7_record_59 rfl ?_
    refine z_gI C (ci := 7) (k := 2) rfl (by decide) rfl (by decide) wl_7 wq_8_6 rfl dX7_record_60 (by assumption) ?_
    refine z_sipush C dX7_record_63 (by decide) ?_
    refine z_imul C dX7_record_66 ?_
    rw [j2, ht.1]
    refine z_callSd C (mX7_moves l G (f := 0) (t := t) k1 k2 q12 (by omega) (by omega) (by omega) (by omega)) (va_cwS 4 C.2.2.2.2.1 gv7_35 rfl rfl rfl hs_X7_moves ⟨Nat.le_of_ble_eq_true rfl, Nat.le_of_ble_eq_true rfl⟩) rfl rfl (Nat.le_of_ble_eq_true rfl) dX7_record_67 ⟨Nat.zero_le _, Nat.zero_le _⟩ ?_
    have e9 : va_up J (o + 2) (movF (J (o + 1)) (J (o + 2)) 0 t) o 2 = recN (I o 2) := by rw [va_up_n q02, j2]
    refine z_aload_n C dX7_record_70 rfl ?_
    refine z_dup C dX7_record_71 rfl ?_
    refine z_gI C (ci := 7) (k := 2) rfl (by decide) rfl (by decide) wl_7 wq_8_6 rfl dX7_record_72 (by assumption) ?_
    refine z_iconst C dX7_record_75 ?_
    refine z_iadd C dX7_record_76 ?_
    refine z_pI C (ci := 7) (k := 2) rfl (by decide) rfl (by decide) tyX7_ok nmX7 wl_7 wq_8_6 rfl (Or.inl rfl) dX7_record_77 (by assumption) ?_
    exact z_vret2 C hQ rfl dX7_record_80 ⟨rfl, rfl, rfl, rfl, by
      rw [e9, jr1, jr2]
      unfold recM recH
      rw [show (236 * recN (I o 2)).toNat = t by omega, hJ]
      funext b j
      simp only [u2, va_up]
      by_cases hb : b = o ∧ j = 2
      · rw [if_pos hb, if_pos hb]
      · rw [if_neg hb, if_neg hb]
        by_cases hc : b = o + 2
        · rw [if_pos hc, if_pos hc]
        · rw [if_neg hc, if_neg hc]; unfold u2; rw [if_neg hb, va_up_n hc], rfl⟩
  have hloop : ∀ (n : Nat) (k : Nat), I o 2 = 6 → k ≤ 1180 → 1180 - k < n → Zq p l e9 ⟨1, 0, 0, 24⟩ s mt args below meth c G 2 Q 0 0 z K N (va_up I (o + 2) (fun j => if j < k then I (o + 2) (j + 236) else I (o + 2) j)) R 11 [(0, .ref o), (1, .int (zI (k : Int)))] [] := by
    intro n
    induction n with
    | zero => intro k h0 h1 h2; exact absurd h2 (by omega)
    | succ n ih =>
      intro k h0 h1 h2
      refine z_iload_n C dX7_record_11 rfl ?_
      refine z_sipush C dX7_record_12 (by decide) ?_
      refine z_icmp_ge C (tgt := 40) dX7_record_15 (by decide) (by first | omega | exact b2i_r) (by first | omega | exact b2i_r) (fun h15 => ?_) (fun h15 => ?_)
      · refine z_aload_n C dX7_record_40 rfl ?_
        refine z_dup C dX7_record_41 rfl ?_
        refine z_gI C (ci := 7) (k := 2) rfl (by decide) rfl (by decide) wl_7 wq_8_6 rfl dX7_record_42 (by assumption) ?_
        refine z_iconst C dX7_record_45 ?_
        refine z_isub C dX7_record_46 ?_
        refine z_pI C (ci := 7) (k := 2) rfl (by decide) rfl (by decide) tyX7_ok nmX7 wl_7 wq_8_6 rfl (Or.inl rfl) dX7_record_47 (by assumption) ?_
        refine z_sub [0] rfl rfl ?_
        refine z_mem (I' := u2 (va_up I (o + 2) (recS (I (o + 2)) (I o 2))) o 2 (recN (I o 2))) ?_ rfl (hjoin _ rfl)
        rw [va_up_n q02, show I o 2 - 1 = recN (I o 2) by unfold recN; rw [if_pos h0]; omega]
        congr 2
        funext j
        unfold recS
        by_cases hj : j < k
        · rw [if_pos hj, if_pos ⟨h0, by omega⟩]
        · rw [if_neg hj, if_neg (by omega)]
      · refine z_aload_n C dX7_record_18 rfl ?_
        refine z_gR C (ci := 7) (k := 1) rfl (by decide) rfl (by decide) wl_7 wq_4_4 (by decide) dX7_record_19 (by assumption) (by assumption) ?_
        refine z_iload_n C dX7_record_22 rfl ?_
        refine z_aload_n C dX7_record_23 rfl ?_
        refine z_gR C (ci := 7) (k := 1) rfl (by decide) rfl (by decide) wl_7 wq_4_4 (by decide) dX7_record_24 (by assumption) (by assumption) ?_
        refine z_iload_n C dX7_record_27 rfl ?_
        refine z_sipush C dX7_record_28 (by decide) ?_
        refine z_iadd C dX7_record_31 ?_
        refine z_ialdk C (k + 236) dX7_record_32 (by assumption) (by first | rfl | omega) (by omega) (by omega) ?_
        rw [va_up_s, if_neg (by omega)]
        refine z_iastk C (k) dX7_record_33 (by assumption) (by first | rfl | omega) (by omega) (by omega) ?_
        rw [u2_va]
        refine z_mem (I' := va_up I (o + 2) (fun j => if j < k + 1 then I (o + 2) (j + 236) else I (o + 2) j)) ?_ rfl ?_
        · congr 1
          funext j
          by_cases hj : j = k
          · rw [if_pos hj, if_pos (by omega), hj]
          · rw [if_neg hj]
            by_cases h : j < k
            · rw [if_pos h, if_pos (by omega)]
            · rw [if_neg h, if_neg (by omega)]
        refine z_iinc C dX7_record_34 rfl (by decide) rfl ?_
        refine z_goto C (tgt := 11) dX7_record_37 (by decide) ?_
        exact ih (k + 1) h0 (by omega) (by omega)
  refine z_aload_n C dX7_record_0 rfl ?_
  refine z_gI C (ci := 7) (k := 2) rfl (by decide) rfl (by decide) wl_7 wq_8_6 rfl dX7_record_1 (by assumption) ?_
  refine z_bipush C dX7_record_4 (by decide) ?_
  refine z_icmp_ne C (tgt := 50) dX7_record_6 (by decide) (by first | omega | exact b2i_r) (by first | omega | exact b2i_r) (fun h6 => ?_) (fun h6 => ?_)
  · refine z_sub [0] rfl rfl ?_
    refine z_mem (I' := u2 (va_up I (o + 2) (recS (I (o + 2)) (I o 2))) o 2 (recN (I o 2))) ?_ rfl (hjoin _ rfl)
    have e6 : recN (I o 2) = I o 2 := if_neg h6
    rw [e6]
    funext b j
    by_cases hb : b = o ∧ j = 2
    · obtain ⟨rfl, rfl⟩ := hb
      rw [u2_s]
    · unfold u2
      rw [if_neg hb]
      by_cases hc : b = o + 2
      · subst hc
        rw [va_up_s]
        exact (if_neg (fun z => h6 z.1)).symm
      · rw [va_up_n hc]
  · refine z_iconst C dX7_record_9 ?_
    refine z_istore_n C dX7_record_10 (by decide) rfl ?_
    refine z_mem (I' := va_up I (o + 2) (fun j => if j < 0 then I (o + 2) (j + 236) else I (o + 2) j)) ?_ rfl (hloop 1181 0 h6 (by omega) (by omega))
    rw [show (fun j => if j < 0 then I (o + 2) (j + 236) else I (o + 2) j) = I (o + 2) from funext fun j => if_neg (by omega), va_upS]

theorem voidsF_lo {f : Nat → Int} {j : Nat} (h : j < 24) : voidsF f j = f j := if_neg (by omega)
theorem recM_1 (I : MI) (o : Nat) : recM I o (o + 1) = I (o + 1) := by
  unfold recM
  rw [u2_row (by omega), va_up_n (by omega)]
set_option maxHeartbeats 4000000 in
set_option maxRecDepth 100000 in
theorem mX7_isValue (l : Launch) (G : GG) {z : Nat} {K N : Nat → Nat} {I : MI} {R : MR} {sg v : Int} (hsg : -2147483648 ≤ sg ∧ sg < 2147483648) (hv : -2147483648 ≤ v ∧ v < 2147483648) : Cod l G yX7_isValue (Cond.code yX7_isValue cX7_isValue 2 (some .boolean) :: wsL_law) ⟨1, 0, 0, 22⟩ [.int (zI sg), .int (zI v)] z K N I R (some (.int (zI (b2i (isVal sg v))))) I R := by
  refine Con.of (own := RX7) (cc := cX7_isValue) (maxL := 2) (ret := (some .boolean)) (by decide +kernel) rfl rfl (Nat.le_of_ble_eq_true rfl) (by decide) rfl ?_
  intro p e9 s mt args below meth c Q hin hQ C
  refine z_iload_n C dX7_isValue_0 rfl ?_
  refine z_if_ne C (tgt := 14) dX7_isValue_1 (by decide) (by first | omega | exact b2i_r) (fun h1 => ?_) (fun h1 => ?_)
  · refine z_iload_n C dX7_isValue_14 rfl ?_
    refine z_iconst C dX7_isValue_15 ?_
    refine z_icmp_ne C (tgt := 29) dX7_isValue_16 (by decide) (by first | omega | exact b2i_r) (by first | omega | exact b2i_r) (fun h16 => ?_) (fun h16 => ?_)
    · refine z_iload_n C dX7_isValue_29 rfl ?_
      refine z_iconst C dX7_isValue_30 ?_
      refine z_icmp_ne C (tgt := 49) dX7_isValue_31 (by decide) (by first | omega | exact b2i_r) (by first | omega | exact b2i_r) (fun h31 => ?_) (fun h31 => ?_)
      · refine z_iconst C dX7_isValue_49 ?_
        exact z_zret2 C hQ rfl (by first | exact Or.inl rfl | exact Or.inr rfl | exact b2i_c | omega) dX7_isValue_50 ⟨zr (by unfold isVal; first | (apply b2i_iff; omega) | exact (b2i_t (by have := b2i_1.mp h42; omega)).symm | exact (b2i_f (by have := b2i_0.mp h42; omega)).symm | exact (b2i_f (by omega)).symm), rfl, rfl, rfl, rfl, rfl⟩
      · refine z_iload_n C dX7_isValue_34 rfl ?_
        refine z_iconst C dX7_isValue_35 ?_
        refine z_sipush C dX7_isValue_36 (by decide) ?_
        refine z_callSd C (mX7_within l G (by omega) (by omega) (by omega)) (va_cwS 3 C.2.2.2.2.1 gv7_39 rfl rfl rfl hs_X7_within ⟨Nat.le_of_ble_eq_true rfl, Nat.le_of_ble_eq_true rfl⟩) rfl rfl (Nat.le_of_ble_eq_true rfl) dX7_isValue_39 ⟨Nat.zero_le _, Nat.zero_le _⟩ ?_
        refine z_if_eq C (tgt := 49) dX7_isValue_42 (by decide) (by first | omega | exact b2i_r) (fun h42 => ?_) (fun h42 => ?_)
        · refine z_iconst C dX7_isValue_49 ?_
          exact z_zret2 C hQ rfl (by first | exact Or.inl rfl | exact Or.inr rfl | exact b2i_c | omega) dX7_isValue_50 ⟨zr (by unfold isVal; first | (apply b2i_iff; omega) | exact (b2i_t (by have := b2i_1.mp h42; omega)).symm | exact (b2i_f (by have := b2i_0.mp h42; omega)).symm | exact (b2i_f (by omega)).symm), rfl, rfl, rfl, rfl, rfl⟩
        · refine z_iconst C dX7_isValue_45 ?_
          refine z_goto C (tgt := 50) dX7_isValue_46 (by decide) ?_
          exact z_zret2 C hQ rfl (by first | exact Or.inl rfl | exact Or.inr rfl | exact b2i_c | omega) dX7_isValue_50 ⟨zr (by unfold isVal; first | (apply b2i_iff; omega) | exact (b2i_t (by have := b2i_1.mp h42; omega)).symm | exact (b2i_f (by have := b2i_0.mp h42; omega)).symm | exact (b2i_f (by omega)).symm), rfl, rfl, rfl, rfl, rfl⟩
    · refine z_iload_n C dX7_isValue_19 rfl ?_
      refine z_iconst C dX7_isValue_20 ?_
      refine z_bipush C dX7_isValue_21 (by decide) ?_
      refine z_callSd C (mX7_within l G (by omega) (by omega) (by omega)) (va_cwS 3 C.2.2.2.2.1 gv7_39 rfl rfl rfl hs_X7_within ⟨Nat.le_of_ble_eq_true rfl, Nat.le_of_ble_eq_true rfl⟩) rfl rfl (Nat.le_of_ble_eq_true rfl) dX7_isValue_23 ⟨Nat.zero_le _, Nat.zero_le _⟩ ?_
      refine z_goto C (tgt := 50) dX7_isValue_26 (by decide) ?_
      exact z_zret2 C hQ rfl (by first | exact Or.inl rfl | exact Or.inr rfl | exact b2i_c | omega) dX7_isValue_50 ⟨zr (by unfold isVal; first | (apply b2i_iff; omega) | exact (b2i_t (by have := b2i_1.mp h42; omega)).symm | exact (b2i_f (by have := b2i_0.mp h42; omega)).symm | exact (b2i_f (by omega)).symm), rfl, rfl, rfl, rfl, rfl⟩
  · refine z_iload_n C dX7_isValue_4 rfl ?_
    refine z_iconst C dX7_isValue_5 ?_
    refine z_bipush C dX7_isValue_6 (by decide) ?_
    refine z_callSd C (mX7_within l G (by omega) (by omega) (by omega)) (va_cwS 3 C.2.2.2.2.1 gv7_39 rfl rfl rfl hs_X7_within ⟨Nat.le_of_ble_eq_true rfl, Nat.le_of_ble_eq_true rfl⟩) rfl rfl (Nat.le_of_ble_eq_true rfl) dX7_isValue_8 ⟨Nat.zero_le _, Nat.zero_le _⟩ ?_
    refine z_goto C (tgt := 50) dX7_isValue_11 (by decide) ?_
    exact z_zret2 C hQ rfl (by first | exact Or.inl rfl | exact Or.inr rfl | exact b2i_c | omega) dX7_isValue_50 ⟨zr (by unfold isVal; first | (apply b2i_iff; omega) | exact (b2i_t (by have := b2i_1.mp h42; omega)).symm | exact (b2i_f (by have := b2i_0.mp h42; omega)).symm | exact (b2i_f (by omega)).symm), rfl, rfl, rfl, rfl, rfl⟩

set_option maxHeartbeats 4000000 in
set_option maxRecDepth 100000 in
theorem mX7_sets (l : Launch) (G : GG) {z : Nat} {K N : Nat → Nat} {I : MI} {R : MR} {o : Nat} (hM : ShM G z K N R o) (hO : Ok (I (o + 1))) {sg : Nat} {v : Int} (hv : isVal sg v) : Cod l G yX7_sets (Cond.code yX7_sets cX7_sets 4 (some .int) :: wsL_law) ⟨6, 0, 0, 128⟩ [.ref o, .int (zI (sg : Int)), .int (zI v)] z K N I R (some (.int (zI (I (o + 1) sg)))) (va_up I (o + 1) (setsF (I (o + 1)) sg v)) R := by
  refine Con.of (own := RX7) (cc := cX7_sets) (maxL := 4) (ret := (some .int)) (by decide +kernel) rfl rfl (Nat.le_of_ble_eq_true rfl) (by decide) rfl ?_
  intro p e9 s mt args below meth c Q hin hQ C
  obtain ⟨ho, ⟨r0, r1, r3, r4, r5, r7, r8⟩, ⟨k1, k2, k3, k4, k5, k6, k7⟩, n1, n2, n3, n4, n5, n6, n7⟩ := id hM
  have hs2 : (sg : Int) ≤ 2 := by unfold isVal at hv; omega
  refine z_aload_n C dX7_sets_0 rfl ?_
  refine z_gR C (ci := 7) (k := 0) rfl (by decide) rfl (by decide) wl_7 wq_4_3 (by decide) dX7_sets_1 (by assumption) (by assumption) ?_
  refine z_iload_n C dX7_sets_4 rfl ?_
  refine z_ialdk C (sg) dX7_sets_5 (by assumption) (by first | rfl | omega) (by omega) (by omega) ?_
  refine z_istore_n C dX7_sets_6 (by decide) rfl ?_
  refine z_aload_n C dX7_sets_7 rfl ?_
  refine z_gR C (ci := 7) (k := 0) rfl (by decide) rfl (by decide) wl_7 wq_4_3 (by decide) dX7_sets_8 (by assumption) (by assumption) ?_
  refine z_iload_n C dX7_sets_11 rfl ?_
  refine z_iload_n C dX7_sets_12 rfl ?_
  refine z_iastk C (sg) dX7_sets_13 (by assumption) (by first | rfl | omega) (by omega) (by omega) ?_
  rw [u2_st]
  refine z_iload_n C dX7_sets_14 rfl ?_
  refine z_iconst C dX7_sets_15 ?_
  refine z_icmp_ne C (tgt := 23) dX7_sets_16 (by decide) (by first | omega | exact b2i_r) (by first | omega | exact b2i_r) (fun h16 => ?_) (fun h16 => ?_)
  · refine z_mem (I' := va_up I (o + 1) (setsV (I (o + 1)) sg v)) (by first | (rw [va_up_s, va_up2]; unfold setsV; rw [if_pos (by omega)]; done) | (unfold setsV; rw [if_neg (by omega)])) rfl ?_
    refine z_aload_n C dX7_sets_23 rfl ?_
    refine z_callVd C (ci := 7) rfl (by decide) (by first | assumption | exact hM.1) (mX7_handsGo l G hM (by rw [va_up_s]; exact hO.h_setsV hv)) (cwV 0 C.2.2.2.2.1 gv7_100 rfl rfl rfl hd_X7_handsGo ⟨Nat.le_of_ble_eq_true rfl, Nat.le_of_ble_eq_true rfl⟩) rfl rfl (Nat.le_of_ble_eq_true rfl) dX7_sets_24 ⟨Nat.zero_le _, Nat.zero_le _⟩ ?_
    rw [va_up_s, va_up2]
    refine z_iload_n C dX7_sets_27 rfl ?_
    exact z_iret2 C hQ rfl dX7_sets_28 ⟨rfl, rfl, rfl, rfl, rfl, rfl⟩
  · refine z_aload_n C dX7_sets_19 rfl ?_
    refine z_callVd C (ci := 7) rfl (by decide) (by first | assumption | exact hM.1) (mX7_voidsAll l G hM) (cwV 0 C.2.2.2.2.1 gv7_97 rfl rfl rfl hd_X7_voidsAll ⟨Nat.le_of_ble_eq_true rfl, Nat.le_of_ble_eq_true rfl⟩) rfl rfl (Nat.le_of_ble_eq_true rfl) dX7_sets_20 ⟨Nat.zero_le _, Nat.zero_le _⟩ ?_
    refine z_mem (I' := va_up I (o + 1) (setsV (I (o + 1)) sg v)) (by first | (rw [va_up_s, va_up2]; unfold setsV; rw [if_pos (by omega)]; done) | (unfold setsV; rw [if_neg (by omega)])) rfl ?_
    refine z_aload_n C dX7_sets_23 rfl ?_
    refine z_callVd C (ci := 7) rfl (by decide) (by first | assumption | exact hM.1) (mX7_handsGo l G hM (by rw [va_up_s]; exact hO.h_setsV hv)) (cwV 0 C.2.2.2.2.1 gv7_100 rfl rfl rfl hd_X7_handsGo ⟨Nat.le_of_ble_eq_true rfl, Nat.le_of_ble_eq_true rfl⟩) rfl rfl (Nat.le_of_ble_eq_true rfl) dX7_sets_24 ⟨Nat.zero_le _, Nat.zero_le _⟩ ?_
    rw [va_up_s, va_up2]
    refine z_iload_n C dX7_sets_27 rfl ?_
    exact z_iret2 C hQ rfl dX7_sets_28 ⟨rfl, rfl, rfl, rfl, rfl, rfl⟩

set_option maxHeartbeats 4000000 in
set_option maxRecDepth 100000 in
theorem mX7_set (l : Launch) (G : GG) {z : Nat} {K N : Nat → Nat} {I : MI} {R : MR} {o : Nat} (hM : ShM G z K N R o) (hO : Ok (I (o + 1))) (hR : 0 ≤ I o 2 ∧ I o 2 ≤ 6) {sg v : Int} (hsg : -2147483648 ≤ sg ∧ sg < 2147483648) (hv : -2147483648 ≤ v ∧ v < 2147483648) : Cod l G yX7_set (Cond.code yX7_set cX7_set 3 (some .int) :: wsL_law) ⟨7, 0, 0, 151⟩ [.ref o, .int (zI sg), .int (zI v)] z K N I R (some (.int (zI (if isVal sg v then I (o + 1) sg.toNat else -2)))) (if isVal sg v then va_up (recM I o) (o + 1) (setsF (I (o + 1)) sg.toNat v) else I) R := by
  refine Con.of (own := RX7) (cc := cX7_set) (maxL := 3) (ret := (some .int)) (by decide +kernel) rfl rfl (Nat.le_of_ble_eq_true rfl) (by decide) rfl ?_
  intro p e9 s mt args below meth c Q hin hQ C
  refine z_iload_n C dX7_set_0 rfl ?_
  refine z_iload_n C dX7_set_1 rfl ?_
  refine z_callSd C (mX7_isValue l G hsg hv) (va_cwS 2 C.2.2.2.2.1 gv7_103 rfl rfl rfl hs_X7_isValue ⟨Nat.le_of_ble_eq_true rfl, Nat.le_of_ble_eq_true rfl⟩) rfl rfl (Nat.le_of_ble_eq_true rfl) dX7_set_2 ⟨Nat.zero_le _, Nat.zero_le _⟩ ?_
  refine z_if_ne C (tgt := 11) dX7_set_5 (by decide) (by first | omega | exact b2i_r) (fun h5 => ?_) (fun h5 => ?_)
  · have hb := b2i_1.mp h5
    obtain ⟨n9, rfl⟩ := Int.eq_ofNat_of_zero_le (show 0 ≤ sg by unfold isVal at hb; omega)
    refine z_aload_n C dX7_set_11 rfl ?_
    refine z_callVd C (ci := 7) rfl (by decide) (by first | assumption | exact hM.1) (mX7_record l G hM hR) (cwV 0 C.2.2.2.2.1 gv7_107 rfl rfl rfl hd_X7_record ⟨Nat.le_of_ble_eq_true rfl, Nat.le_of_ble_eq_true rfl⟩) rfl rfl (Nat.le_of_ble_eq_true rfl) dX7_set_12 ⟨Nat.zero_le _, Nat.zero_le _⟩ ?_
    refine z_aload_n C dX7_set_15 rfl ?_
    refine z_iload_n C dX7_set_16 rfl ?_
    refine z_iload_n C dX7_set_17 rfl ?_
    refine z_callVd C (ci := 7) rfl (by decide) (by first | assumption | exact hM.1) (mX7_sets l G hM (by rw [recM_1]; exact hO) hb) (cwV 2 C.2.2.2.2.1 gv7_110 rfl rfl rfl hd_X7_sets ⟨Nat.le_of_ble_eq_true rfl, Nat.le_of_ble_eq_true rfl⟩) rfl rfl (Nat.le_of_ble_eq_true rfl) dX7_set_18 ⟨Nat.zero_le _, Nat.zero_le _⟩ ?_
    rw [recM_1]
    exact z_iret2 C hQ rfl dX7_set_21 ⟨zr (by first | (rw [if_pos hb]; rfl) | rw [if_neg (b2i_0.mp h5)]), rfl, rfl, rfl, by first | (rw [if_pos hb]; rfl) | rw [if_neg (b2i_0.mp h5)], rfl⟩
  · refine z_bipush C dX7_set_8 (by decide) ?_
    exact z_iret2 C hQ rfl dX7_set_10 ⟨zr (by first | (rw [if_pos hb]; rfl) | rw [if_neg (b2i_0.mp h5)]), rfl, rfl, rfl, by first | (rw [if_pos hb]; rfl) | rw [if_neg (b2i_0.mp h5)], rfl⟩

set_option maxHeartbeats 4000000 in
set_option maxRecDepth 100000 in
theorem mX7_whyNoRing (l : Launch) (G : GG) {z : Nat} {K N : Nat → Nat} {I : MI} {R : MR} {o : Nat} (hM : ShM G z K N R o) (hO : Ok (I (o + 1))) {v : Int} (hv : -2147483648 ≤ v ∧ v < 2147483648) : Cod l G yX7_whyNoRing (Cond.code yX7_whyNoRing cX7_whyNoRing 2 (some .int) :: wsL_law) ⟨1, 0, 0, 22⟩ [.ref o, .int (zI v)] z K N I R (some (.int (zI (if 1 ≤ v ∧ v ≤ 9999 then (if I (o + 1) 3 = 14 then -4 else 0) else -2)))) I R := by
  refine Con.of (own := RX7) (cc := cX7_whyNoRing) (maxL := 2) (ret := (some .int)) (by decide +kernel) rfl rfl (Nat.le_of_ble_eq_true rfl) (by decide) rfl ?_
  intro p e9 s mt args below meth c Q hin hQ C
  obtain ⟨ho, ⟨r0, r1, r3, r4, r5, r7, r8⟩, ⟨k1, k2, k3, k4, k5, k6, k7⟩, n1, n2, n3, n4, n5, n6, n7⟩ := id hM
  have h3 := hO.2.2.2.1
  refine z_iload_n C dX7_whyNoRing_0 rfl ?_
  refine z_iconst C dX7_whyNoRing_1 ?_
  refine z_sipush C dX7_whyNoRing_2 (by decide) ?_
  refine z_callSd C (mX7_within l G (by omega) (by omega) (by omega)) (va_cwS 3 C.2.2.2.2.1 gv7_39 rfl rfl rfl hs_X7_within ⟨Nat.le_of_ble_eq_true rfl, Nat.le_of_ble_eq_true rfl⟩) rfl rfl (Nat.le_of_ble_eq_true rfl) dX7_whyNoRing_5 ⟨Nat.zero_le _, Nat.zero_le _⟩ ?_
  refine z_if_ne C (tgt := 16) dX7_whyNoRing_8 (by decide) (by first | omega | exact b2i_r) (fun h8 => ?_) (fun h8 => ?_)
  · have hb := b2i_1.mp h8
    refine z_aload_n C dX7_whyNoRing_16 rfl ?_
    refine z_gR C (ci := 7) (k := 0) rfl (by decide) rfl (by decide) wl_7 wq_4_3 (by decide) dX7_whyNoRing_17 (by assumption) (by assumption) ?_
    refine z_iconst C dX7_whyNoRing_20 ?_
    refine z_ialdk C (3) dX7_whyNoRing_21 (by assumption) (by first | rfl | omega) (by omega) (by omega) ?_
    refine z_bipush C dX7_whyNoRing_22 (by decide) ?_
    refine z_icmp_ne C (tgt := 32) dX7_whyNoRing_24 (by decide) (by first | omega | exact b2i_r) (by first | omega | exact b2i_r) (fun h24 => ?_) (fun h24 => ?_)
    · refine z_iconst C dX7_whyNoRing_32 ?_
      exact z_iret2 C hQ rfl dX7_whyNoRing_33 ⟨zr (by (repeat' split) <;> omega), rfl, rfl, rfl, rfl, rfl⟩
    · refine z_bipush C dX7_whyNoRing_27 (by decide) ?_
      refine z_goto C (tgt := 33) dX7_whyNoRing_29 (by decide) ?_
      exact z_iret2 C hQ rfl dX7_whyNoRing_33 ⟨zr (by (repeat' split) <;> omega), rfl, rfl, rfl, rfl, rfl⟩
  · have hb := b2i_0.mp h8
    refine z_bipush C dX7_whyNoRing_11 (by decide) ?_
    refine z_goto C (tgt := 33) dX7_whyNoRing_13 (by decide) ?_
    exact z_iret2 C hQ rfl dX7_whyNoRing_33 ⟨zr (by (repeat' split) <;> omega), rfl, rfl, rfl, rfl, rfl⟩

set_option maxHeartbeats 4000000 in
set_option maxRecDepth 100000 in
theorem mX7_comes (l : Launch) (G : GG) {z : Nat} {K N : Nat → Nat} {I : MI} {R : MR} {o : Nat} (hM : ShM G z K N R o) (hO : Ok (I (o + 1))) (h14 : I (o + 1) 3 < 14) {v : Int} : Cod l G yX7_comes (Cond.code yX7_comes cX7_comes 2 (some .int) :: wsL_law) ⟨3, 0, 0, 66⟩ [.ref o, .int (zI v)] z K N I R (some (.int (zI (I (o + 1) 3)))) (va_up I (o + 1) (comesF (I (o + 1)) v)) R := by
  refine Con.of (own := RX7) (cc := cX7_comes) (maxL := 2) (ret := (some .int)) (by decide +kernel) rfl rfl (Nat.le_of_ble_eq_true rfl) (by decide) rfl ?_
  intro p e9 s mt args below meth c Q hin hQ C
  obtain ⟨ho, ⟨r0, r1, r3, r4, r5, r7, r8⟩, ⟨k1, k2, k3, k4, k5, k6, k7⟩, n1, n2, n3, n4, n5, n6, n7⟩ := id hM
  have h3 := hO.2.2.2.1
  refine z_aload_n C dX7_comes_0 rfl ?_
  refine z_gR C (ci := 7) (k := 0) rfl (by decide) rfl (by decide) wl_7 wq_4_3 (by decide) dX7_comes_1 (by assumption) (by assumption) ?_
  refine z_bipush C dX7_comes_4 (by decide) ?_
  refine z_aload_n C dX7_comes_6 rfl ?_
  refine z_gR C (ci := 7) (k := 0) rfl (by decide) rfl (by decide) wl_7 wq_4_3 (by decide) dX7_comes_7 (by assumption) (by assumption) ?_
  refine z_iconst C dX7_comes_10 ?_
  refine z_ialdk C (3) dX7_comes_11 (by assumption) (by first | rfl | omega) (by omega) (by omega) ?_
  refine z_iadd C dX7_comes_12 ?_
  refine z_iload_n C dX7_comes_13 rfl ?_
  refine z_iastk C (6 + (I (o + 1) 3).toNat) dX7_comes_14 (by assumption) (by first | rfl | omega) (by omega) (by omega) ?_
  rw [u2_st]
  refine z_aload_n C dX7_comes_15 rfl ?_
  refine z_gR C (ci := 7) (k := 0) rfl (by decide) rfl (by decide) wl_7 wq_4_3 (by decide) dX7_comes_16 (by assumption) (by assumption) ?_
  refine z_iconst C dX7_comes_19 ?_
  refine z_dup2 C dX7_comes_20 rfl rfl ?_
  refine z_ialdk C (3) dX7_comes_21 (by assumption) (by first | rfl | omega) (by omega) (by omega) ?_
  rw [va_up_s, st1_n (by omega)]
  refine z_iconst C dX7_comes_22 ?_
  refine z_iadd C dX7_comes_23 ?_
  refine z_iastk C (3) dX7_comes_24 (by assumption) (by first | rfl | omega) (by omega) (by omega) ?_
  rw [u2_vst]
  refine z_aload_n C dX7_comes_25 rfl ?_
  refine z_callVd C (ci := 7) rfl (by decide) (by first | assumption | exact hM.1) (mX7_voidsAll l G hM) (cwV 0 C.2.2.2.2.1 gv7_97 rfl rfl rfl hd_X7_voidsAll ⟨Nat.le_of_ble_eq_true rfl, Nat.le_of_ble_eq_true rfl⟩) rfl rfl (Nat.le_of_ble_eq_true rfl) dX7_comes_26 ⟨Nat.zero_le _, Nat.zero_le _⟩ ?_
  rw [va_up_s, va_up2]
  refine z_aload_n C dX7_comes_29 rfl ?_
  refine z_gR C (ci := 7) (k := 0) rfl (by decide) rfl (by decide) wl_7 wq_4_3 (by decide) dX7_comes_30 (by assumption) (by assumption) ?_
  refine z_iconst C dX7_comes_33 ?_
  refine z_ialdk C (3) dX7_comes_34 (by assumption) (by first | rfl | omega) (by omega) (by omega) ?_
  rw [va_up_s, voidsF_lo (by omega), st1_s]
  refine z_iconst C dX7_comes_35 ?_
  refine z_isub C dX7_comes_36 ?_
  exact z_iret2 C hQ rfl dX7_comes_37 ⟨zr (by omega), rfl, rfl, rfl, rfl, rfl⟩

set_option maxHeartbeats 4000000 in
set_option maxRecDepth 100000 in
theorem mX7_ring (l : Launch) (G : GG) {z : Nat} {K N : Nat → Nat} {I : MI} {R : MR} {o : Nat} (hM : ShM G z K N R o) (hO : Ok (I (o + 1))) (hR : 0 ≤ I o 2 ∧ I o 2 ≤ 6) {v : Int} (hv : -2147483648 ≤ v ∧ v < 2147483648) : Cod l G yX7_ring (Cond.code yX7_ring cX7_ring 3 (some .int) :: wsL_law) ⟨4, 0, 0, 87⟩ [.ref o, .int (zI v)] z K N I R (some (.int (zI (if 1 ≤ v ∧ v ≤ 9999 then (if I (o + 1) 3 = 14 then -4 else I (o + 1) 3) else -2)))) (if (1 ≤ v ∧ v ≤ 9999) ∧ ¬ I (o + 1) 3 = 14 then va_up (recM I o) (o + 1) (comesF (I (o + 1)) v) else I) R := by
  refine Con.of (own := RX7) (cc := cX7_ring) (maxL := 3) (ret := (some .int)) (by decide +kernel) rfl rfl (Nat.le_of_ble_eq_true rfl) (by decide) rfl ?_
  intro p e9 s mt args below meth c Q hin hQ C
  have h3 := hO.2.2.2.1
  refine z_aload_n C dX7_ring_0 rfl ?_
  refine z_iload_n C dX7_ring_1 rfl ?_
  refine z_callVd C (ci := 7) rfl (by decide) (by first | assumption | exact hM.1) (mX7_whyNoRing l G hM hO hv) (cwV 1 C.2.2.2.2.1 gv7_113 rfl rfl rfl hd_X7_whyNoRing ⟨Nat.le_of_ble_eq_true rfl, Nat.le_of_ble_eq_true rfl⟩) rfl rfl (Nat.le_of_ble_eq_true rfl) dX7_ring_2 ⟨Nat.zero_le _, Nat.zero_le _⟩ ?_
  obtain ⟨w, hw, hw2⟩ : ∃ w : Int, w = (if 1 ≤ v ∧ v ≤ 9999 then (if I (o + 1) 3 = 14 then -4 else 0) else -2) ∧ ((w = -2 ∧ ¬ (1 ≤ v ∧ v ≤ 9999)) ∨ (w = -4 ∧ (1 ≤ v ∧ v ≤ 9999) ∧ I (o + 1) 3 = 14) ∨ (w = 0 ∧ (1 ≤ v ∧ v ≤ 9999) ∧ ¬ I (o + 1) 3 = 14)) := ⟨_, rfl, (by (repeat' split) <;> omega)⟩
  rw [← hw]
  refine z_istore_n C dX7_ring_5 (by decide) rfl ?_
  refine z_iload_n C dX7_ring_6 rfl ?_
  refine z_if_ge C (tgt := 12) dX7_ring_7 (by decide) (by first | omega | exact b2i_r) (fun h7 => ?_) (fun h7 => ?_)
  · refine z_aload_n C dX7_ring_12 rfl ?_
    refine z_callVd C (ci := 7) rfl (by decide) (by first | assumption | exact hM.1) (mX7_record l G hM hR) (cwV 0 C.2.2.2.2.1 gv7_107 rfl rfl rfl hd_X7_record ⟨Nat.le_of_ble_eq_true rfl, Nat.le_of_ble_eq_true rfl⟩) rfl rfl (Nat.le_of_ble_eq_true rfl) dX7_ring_13 ⟨Nat.zero_le _, Nat.zero_le _⟩ ?_
    refine z_aload_n C dX7_ring_16 rfl ?_
    refine z_iload_n C dX7_ring_17 rfl ?_
    refine z_callVd C (ci := 7) rfl (by decide) (by first | assumption | exact hM.1) (mX7_comes l G hM (by rw [recM_1]; exact hO) (by rw [recM_1]; omega)) (cwV 1 C.2.2.2.2.1 gv7_116 rfl rfl rfl hd_X7_comes ⟨Nat.le_of_ble_eq_true rfl, Nat.le_of_ble_eq_true rfl⟩) rfl rfl (Nat.le_of_ble_eq_true rfl) dX7_ring_18 ⟨Nat.zero_le _, Nat.zero_le _⟩ ?_
    rw [recM_1]
    exact z_iret2 C hQ rfl dX7_ring_21 ⟨zr (by (repeat' split) <;> omega), rfl, rfl, rfl, by first | rw [if_pos (by omega)] | rw [if_neg (by omega)], rfl⟩
  · refine z_iload_n C dX7_ring_10 rfl ?_
    exact z_iret2 C hQ rfl dX7_ring_11 ⟨zr (by (repeat' split) <;> omega), rfl, rfl, rfl, by first | rw [if_pos (by omega)] | rw [if_neg (by omega)], rfl⟩

set_option maxHeartbeats 4000000 in
set_option maxRecDepth 100000 in
theorem mX7_lose (l : Launch) (G : GG) {z : Nat} {K N : Nat → Nat} {I : MI} {R : MR} {o : Nat} (hM : ShM G z K N R o) (hO : Ok (I (o + 1))) (hR : 0 ≤ I o 2 ∧ I o 2 ≤ 6) : Cod l G yX7_lose (Cond.code yX7_lose cX7_lose 3 (some .int) :: wsL_law) ⟨6, 0, 0, 128⟩ [.ref o] z K N I R (some (.int (zI (if I (o + 1) 3 = 0 then -5 else I (o + 1) (6 + (I (o + 1) 3 - 1).toNat))))) (if I (o + 1) 3 = 0 then I else va_up (recM I o) (o + 1) (loseF (I (o + 1)))) R := by
  refine Con.of (own := RX7) (cc := cX7_lose) (maxL := 3) (ret := (some .int)) (by decide +kernel) rfl rfl (Nat.le_of_ble_eq_true rfl) (by decide) rfl ?_
  intro p e9 s mt args below meth c Q hin hQ C
  obtain ⟨ho, ⟨r0, r1, r3, r4, r5, r7, r8⟩, ⟨k1, k2, k3, k4, k5, k6, k7⟩, n1, n2, n3, n4, n5, n6, n7⟩ := id hM
  have h3 := hO.2.2.2.1
  have h4 := Ok4 hO
  refine z_aload_n C dX7_lose_0 rfl ?_
  refine z_gR C (ci := 7) (k := 0) rfl (by decide) rfl (by decide) wl_7 wq_4_3 (by decide) dX7_lose_1 (by assumption) (by assumption) ?_
  refine z_iconst C dX7_lose_4 ?_
  refine z_ialdk C (3) dX7_lose_5 (by assumption) (by first | rfl | omega) (by omega) (by omega) ?_
  refine z_if_ne C (tgt := 12) dX7_lose_6 (by decide) (by first | omega | exact b2i_r) (fun h6 => ?_) (fun h6 => ?_)
  · refine z_aload_n C dX7_lose_12 rfl ?_
    refine z_callVd C (ci := 7) rfl (by decide) (by first | assumption | exact hM.1) (mX7_record l G hM hR) (cwV 0 C.2.2.2.2.1 gv7_107 rfl rfl rfl hd_X7_record ⟨Nat.le_of_ble_eq_true rfl, Nat.le_of_ble_eq_true rfl⟩) rfl rfl (Nat.le_of_ble_eq_true rfl) dX7_lose_13 ⟨Nat.zero_le _, Nat.zero_le _⟩ ?_
    obtain ⟨J, hJ⟩ : ∃ J : MI, J = recM I o := ⟨_, rfl⟩
    rw [← hJ]
    have jr1 : J (o + 1) = I (o + 1) := by rw [hJ, recM_1]
    refine z_aload_n C dX7_lose_16 rfl ?_
    refine z_gR C (ci := 7) (k := 0) rfl (by decide) rfl (by decide) wl_7 wq_4_3 (by decide) dX7_lose_17 (by assumption) (by assumption) ?_
    refine z_iconst C dX7_lose_20 ?_
    refine z_dup2 C dX7_lose_21 rfl rfl ?_
    refine z_ialdk C (3) dX7_lose_22 (by assumption) (by first | rfl | omega) (by omega) (by omega) ?_
    rw [jr1]
    refine z_iconst C dX7_lose_23 ?_
    refine z_isub C dX7_lose_24 ?_
    refine z_iastk C (3) dX7_lose_25 (by assumption) (by first | rfl | omega) (by omega) (by omega) ?_
    rw [u2_st, jr1]
    refine z_aload_n C dX7_lose_26 rfl ?_
    refine z_gR C (ci := 7) (k := 0) rfl (by decide) rfl (by decide) wl_7 wq_4_3 (by decide) dX7_lose_27 (by assumption) (by assumption) ?_
    refine z_iconst C dX7_lose_30 ?_
    refine z_ialdk C (3) dX7_lose_31 (by assumption) (by first | rfl | omega) (by omega) (by omega) ?_
    rw [va_up_s, st1_s]
    refine z_istore_n C dX7_lose_32 (by decide) rfl ?_
    refine z_aload_n C dX7_lose_33 rfl ?_
    refine z_gR C (ci := 7) (k := 0) rfl (by decide) rfl (by decide) wl_7 wq_4_3 (by decide) dX7_lose_34 (by assumption) (by assumption) ?_
    refine z_bipush C dX7_lose_37 (by decide) ?_
    refine z_iload_n C dX7_lose_39 rfl ?_
    refine z_iadd C dX7_lose_40 ?_
    refine z_ialdk C (6 + (I (o + 1) 3 - 1).toNat) dX7_lose_41 (by assumption) (by first | rfl | omega) (by omega) (by omega) ?_
    rw [va_up_s, st1_n (by omega)]
    refine z_istore_n C dX7_lose_42 (by decide) rfl ?_
    refine z_aload_n C dX7_lose_43 rfl ?_
    refine z_gR C (ci := 7) (k := 0) rfl (by decide) rfl (by decide) wl_7 wq_4_3 (by decide) dX7_lose_44 (by assumption) (by assumption) ?_
    refine z_bipush C dX7_lose_47 (by decide) ?_
    refine z_iload_n C dX7_lose_49 rfl ?_
    refine z_iadd C dX7_lose_50 ?_
    refine z_iconst C dX7_lose_51 ?_
    refine z_iastk C (6 + (I (o + 1) 3 - 1).toNat) dX7_lose_52 (by assumption) (by first | rfl | omega) (by omega) (by omega) ?_
    rw [u2_vst]
    refine z_aload_n C dX7_lose_53 rfl ?_
    refine z_gR C (ci := 7) (k := 0) rfl (by decide) rfl (by decide) wl_7 wq_4_3 (by decide) dX7_lose_54 (by assumption) (by assumption) ?_
    refine z_iconst C dX7_lose_57 ?_
    refine z_dup2 C dX7_lose_58 rfl rfl ?_
    refine z_ialdk C (4) dX7_lose_59 (by assumption) (by first | rfl | omega) (by omega) (by omega) ?_
    rw [va_up_s, st1_n (by omega), st1_n (by omega)]
    refine z_iconst C dX7_lose_60 ?_
    refine z_iload_n C dX7_lose_61 rfl ?_
    refine z_ishl C dX7_lose_62 (zI_shl (by omega)) ?_
    refine z_iconst C dX7_lose_63 ?_
    refine z_ixor C dX7_lose_64 rfl ?_
    refine z_iand C dX7_lose_65 (zI_clrb (by omega) _) ?_
    refine z_iastk C (4) dX7_lose_66 (by assumption) (by first | rfl | omega) (by omega) (by omega) ?_
    rw [u2_vst]
    refine z_aload_n C dX7_lose_67 rfl ?_
    refine z_callVd C (ci := 7) rfl (by decide) (by first | assumption | exact hM.1) (mX7_voidsAll l G hM) (cwV 0 C.2.2.2.2.1 gv7_97 rfl rfl rfl hd_X7_voidsAll ⟨Nat.le_of_ble_eq_true rfl, Nat.le_of_ble_eq_true rfl⟩) rfl rfl (Nat.le_of_ble_eq_true rfl) dX7_lose_68 ⟨Nat.zero_le _, Nat.zero_le _⟩ ?_
    rw [va_up_s, va_up2]
    refine z_aload_n C dX7_lose_71 rfl ?_
    refine z_callVd C (ci := 7) rfl (by decide) (by first | assumption | exact hM.1) (mX7_handsGo l G hM (by rw [va_up_s]; exact hO.h_loseV (by omega))) (cwV 0 C.2.2.2.2.1 gv7_100 rfl rfl rfl hd_X7_handsGo ⟨Nat.le_of_ble_eq_true rfl, Nat.le_of_ble_eq_true rfl⟩) rfl rfl (Nat.le_of_ble_eq_true rfl) dX7_lose_72 ⟨Nat.zero_le _, Nat.zero_le _⟩ ?_
    rw [va_up_s, va_up2]
    refine z_iload_n C dX7_lose_75 rfl ?_
    exact z_iret2 C hQ rfl dX7_lose_76 ⟨zr (by first | rw [if_pos (by omega)] | rw [if_neg (by omega)]), rfl, rfl, rfl, by first | (rw [if_pos (by omega)]; done) | (rw [if_neg (by omega), hJ]; rfl), rfl⟩
  · refine z_bipush C dX7_lose_9 (by decide) ?_
    exact z_iret2 C hQ rfl dX7_lose_11 ⟨zr (by first | rw [if_pos (by omega)] | rw [if_neg (by omega)]), rfl, rfl, rfl, by first | (rw [if_pos (by omega)]; done) | (rw [if_neg (by omega), hJ]; rfl), rfl⟩

set_option maxHeartbeats 4000000 in
set_option maxRecDepth 100000 in
theorem mX7_whyNotMoved (l : Launch) (G : GG) {z : Nat} {K N : Nat → Nat} {I : MI} {R : MR} {o : Nat} (hM : ShM G z K N R o) (hO : Ok (I (o + 1))) {rg tk : Int} (hrg : -2147483648 ≤ rg ∧ rg < 2147483648) (ht : tk = 0 ∨ tk = 1) : Cod l G yX7_whyNotMoved (Cond.code yX7_whyNotMoved cX7_whyNotMoved 3 (some .int) :: wsL_law) ⟨2, 0, 0, 43⟩ [.ref o, .int (zI rg), .int (zI tk)] z K N I R (some (.int (zI (if 0 ≤ rg ∧ rg ≤ I (o + 1) 3 - 1 then (if I (o + 1) 4 / 2 ^ rg.toNat % 2 = tk then 0 else -5) else -1)))) I R := by
  refine Con.of (own := RX7) (cc := cX7_whyNotMoved) (maxL := 3) (ret := (some .int)) (by decide +kernel) rfl rfl (Nat.le_of_ble_eq_true rfl) (by decide) rfl ?_
  intro p e9 s mt args below meth c Q hin hQ C
  have h3 := hO.2.2.2.1
  refine z_aload_n C dX7_whyNotMoved_0 rfl ?_
  refine z_iload_n C dX7_whyNotMoved_1 rfl ?_
  refine z_callVd C (ci := 7) rfl (by decide) (by first | assumption | exact hM.1) (mX7_isRing l G hM hO hrg) (cwV 1 C.2.2.2.2.1 gv7_119 rfl rfl rfl hd_X7_isRing ⟨Nat.le_of_ble_eq_true rfl, Nat.le_of_ble_eq_true rfl⟩) rfl rfl (Nat.le_of_ble_eq_true rfl) dX7_whyNotMoved_2 ⟨Nat.zero_le _, Nat.zero_le _⟩ ?_
  refine z_if_ne C (tgt := 12) dX7_whyNotMoved_5 (by decide) (by first | omega | exact b2i_r) (fun h5 => ?_) (fun h5 => ?_)
  · have hb := b2i_1.mp h5
    refine z_aload_n C dX7_whyNotMoved_12 rfl ?_
    refine z_iload_n C dX7_whyNotMoved_13 rfl ?_
    refine z_callVd C (ci := 7) rfl (by decide) (by first | assumption | exact hM.1) (mX7_isStacked l G hM hO (by omega)) (cwV 1 C.2.2.2.2.1 gv7_123 rfl rfl rfl hd_X7_isStacked ⟨Nat.le_of_ble_eq_true rfl, Nat.le_of_ble_eq_true rfl⟩) rfl rfl (Nat.le_of_ble_eq_true rfl) dX7_whyNotMoved_14 ⟨Nat.zero_le _, Nat.zero_le _⟩ ?_
    refine z_iload_n C dX7_whyNotMoved_17 rfl ?_
    refine z_icmp_ne C (tgt := 25) dX7_whyNotMoved_18 (by decide) (by first | omega | exact b2i_r) (by first | omega | exact b2i_r) (fun h18 => ?_) (fun h18 => ?_)
    · refine z_bipush C dX7_whyNotMoved_25 (by decide) ?_
      exact z_iret2 C hQ rfl dX7_whyNotMoved_27 ⟨zr (by (repeat' split) <;> omega), rfl, rfl, rfl, rfl, rfl⟩
    · refine z_iconst C dX7_whyNotMoved_21 ?_
      refine z_goto C (tgt := 27) dX7_whyNotMoved_22 (by decide) ?_
      exact z_iret2 C hQ rfl dX7_whyNotMoved_27 ⟨zr (by (repeat' split) <;> omega), rfl, rfl, rfl, rfl, rfl⟩
  · have hb := b2i_0.mp h5
    refine z_iconst C dX7_whyNotMoved_8 ?_
    refine z_goto C (tgt := 27) dX7_whyNotMoved_9 (by decide) ?_
    exact z_iret2 C hQ rfl dX7_whyNotMoved_27 ⟨zr (by (repeat' split) <;> omega), rfl, rfl, rfl, rfl, rfl⟩

set_option maxHeartbeats 4000000 in
set_option maxRecDepth 100000 in
theorem mX7_isMoved (l : Launch) (G : GG) {z : Nat} {K N : Nat → Nat} {I : MI} {R : MR} {o : Nat} (hM : ShM G z K N R o) (hO : Ok (I (o + 1))) {rg : Nat} (hr : (rg : Int) < I (o + 1) 3) : Cod l G yX7_isMoved (Cond.code yX7_isMoved cX7_isMoved 2 (some .int) :: wsL_law) ⟨6, 0, 0, 128⟩ [.ref o, .int (zI (rg : Int))] z K N I R (some (.int (zI (prsA (moveF (I (o + 1)) rg) (moveF (I (o + 1)) rg 4))))) (va_up I (o + 1) (moveF (I (o + 1)) rg)) R := by
  refine Con.of (own := RX7) (cc := cX7_isMoved) (maxL := 2) (ret := (some .int)) (by decide +kernel) rfl rfl (Nat.le_of_ble_eq_true rfl) (by decide) rfl ?_
  intro p e9 s mt args below meth c Q hin hQ C
  obtain ⟨ho, ⟨r0, r1, r3, r4, r5, r7, r8⟩, ⟨k1, k2, k3, k4, k5, k6, k7⟩, n1, n2, n3, n4, n5, n6, n7⟩ := id hM
  have h3 := hO.2.2.2.1
  have h4 := Ok4 hO
  have hO2 : Ok (moveF (I (o + 1)) rg) := (hO.h_movV hr).h_handsF
  have h42 := Ok4 hO2
  refine z_aload_n C dX7_isMoved_0 rfl ?_
  refine z_gR C (ci := 7) (k := 0) rfl (by decide) rfl (by decide) wl_7 wq_4_3 (by decide) dX7_isMoved_1 (by assumption) (by assumption) ?_
  refine z_iconst C dX7_isMoved_4 ?_
  refine z_dup2 C dX7_isMoved_5 rfl rfl ?_
  refine z_ialdk C (4) dX7_isMoved_6 (by assumption) (by first | rfl | omega) (by omega) (by omega) ?_
  refine z_iconst C dX7_isMoved_7 ?_
  refine z_iload_n C dX7_isMoved_8 rfl ?_
  refine z_ishl C dX7_isMoved_9 (zI_shl (by omega)) ?_
  refine z_ixor C dX7_isMoved_10 (zI_xorb (by omega) _) ?_
  refine z_iastk C (4) dX7_isMoved_11 (by assumption) (by first | rfl | omega) (by omega) (by omega) ?_
  rw [u2_st]
  refine z_aload_n C dX7_isMoved_12 rfl ?_
  refine z_callVd C (ci := 7) rfl (by decide) (by first | assumption | exact hM.1) (mX7_handsGo l G hM (by rw [va_up_s]; exact hO.h_movV hr)) (cwV 0 C.2.2.2.2.1 gv7_100 rfl rfl rfl hd_X7_handsGo ⟨Nat.le_of_ble_eq_true rfl, Nat.le_of_ble_eq_true rfl⟩) rfl rfl (Nat.le_of_ble_eq_true rfl) dX7_isMoved_13 ⟨Nat.zero_le _, Nat.zero_le _⟩ ?_
  rw [va_up_s, va_up2]
  refine z_aload_n C dX7_isMoved_16 rfl ?_
  refine z_aload_n C dX7_isMoved_17 rfl ?_
  refine z_gR C (ci := 7) (k := 0) rfl (by decide) rfl (by decide) wl_7 wq_4_3 (by decide) dX7_isMoved_18 (by assumption) (by assumption) ?_
  refine z_iconst C dX7_isMoved_21 ?_
  refine z_ialdk C (4) dX7_isMoved_22 (by assumption) (by first | rfl | omega) (by omega) (by omega) ?_
  rw [va_up_s]
  refine z_callVd C (ci := 7) rfl (by decide) (by first | assumption | exact hM.1) (mX7_pressureOf l G hM (by rw [va_up_s]; exact hO2) ⟨h42.1, Int.lt_trans h42.2 (by decide)⟩) (cwV 1 C.2.2.2.2.1 gv7_67 rfl rfl rfl hd_X7_pressureOf ⟨Nat.le_of_ble_eq_true rfl, Nat.le_of_ble_eq_true rfl⟩) rfl rfl (Nat.le_of_ble_eq_true rfl) dX7_isMoved_23 ⟨Nat.zero_le _, Nat.zero_le _⟩ ?_
  rw [va_up_s]
  exact z_iret2 C hQ rfl dX7_isMoved_26 ⟨rfl, rfl, rfl, rfl, rfl, rfl⟩

set_option maxHeartbeats 4000000 in
set_option maxRecDepth 100000 in
theorem mX7_stack (l : Launch) (G : GG) {z : Nat} {K N : Nat → Nat} {I : MI} {R : MR} {o : Nat} (hM : ShM G z K N R o) (hO : Ok (I (o + 1))) (hR : 0 ≤ I o 2 ∧ I o 2 ≤ 6) {rg : Int} (hrg : -2147483648 ≤ rg ∧ rg < 2147483648) : Cod l G yX7_stack (Cond.code yX7_stack cX7_stack 3 (some .int) :: wsL_law) ⟨7, 0, 0, 149⟩ [.ref o, .int (zI rg)] z K N I R (some (.int (zI (if 0 ≤ rg ∧ rg ≤ I (o + 1) 3 - 1 then (if I (o + 1) 4 / 2 ^ rg.toNat % 2 = 0 then prsA (moveF (I (o + 1)) rg.toNat) (moveF (I (o + 1)) rg.toNat 4) else -5) else -1)))) (if (0 ≤ rg ∧ rg ≤ I (o + 1) 3 - 1) ∧ I (o + 1) 4 / 2 ^ rg.toNat % 2 = 0 then va_up (recM I o) (o + 1) (moveF (I (o + 1)) rg.toNat) else I) R := by
  refine Con.of (own := RX7) (cc := cX7_stack) (maxL := 3) (ret := (some .int)) (by decide +kernel) rfl rfl (Nat.le_of_ble_eq_true rfl) (by decide) rfl ?_
  intro p e9 s mt args below meth c Q hin hQ C
  have h3 := hO.2.2.2.1
  refine z_aload_n C dX7_stack_0 rfl ?_
  refine z_iload_n C dX7_stack_1 rfl ?_
  refine z_iconst C dX7_stack_2 ?_
  refine z_callVd C (ci := 7) rfl (by decide) (by first | assumption | exact hM.1) (mX7_whyNotMoved l G hM hO hrg (by omega)) (cwV 2 C.2.2.2.2.1 gv7_126 rfl rfl rfl hd_X7_whyNotMoved ⟨Nat.le_of_ble_eq_true rfl, Nat.le_of_ble_eq_true rfl⟩) rfl rfl (Nat.le_of_ble_eq_true rfl) dX7_stack_3 ⟨Nat.zero_le _, Nat.zero_le _⟩ ?_
  obtain ⟨w, hw, hw2⟩ : ∃ w : Int, w = (if 0 ≤ rg ∧ rg ≤ I (o + 1) 3 - 1 then (if I (o + 1) 4 / 2 ^ rg.toNat % 2 = 0 then 0 else -5) else -1) ∧ ((w = -1 ∧ ¬ (0 ≤ rg ∧ rg ≤ I (o + 1) 3 - 1)) ∨ (w = -5 ∧ (0 ≤ rg ∧ rg ≤ I (o + 1) 3 - 1) ∧ ¬ I (o + 1) 4 / 2 ^ rg.toNat % 2 = 0) ∨ (w = 0 ∧ (0 ≤ rg ∧ rg ≤ I (o + 1) 3 - 1) ∧ I (o + 1) 4 / 2 ^ rg.toNat % 2 = 0)) := ⟨_, rfl, (by (repeat' split) <;> omega)⟩
  rw [← hw]
  refine z_istore_n C dX7_stack_6 (by decide) rfl ?_
  refine z_iload_n C dX7_stack_7 rfl ?_
  refine z_if_ge C (tgt := 13) dX7_stack_8 (by decide) (by first | omega | exact b2i_r) (fun h8 => ?_) (fun h8 => ?_)
  · have hb : (0 ≤ rg ∧ rg ≤ I (o + 1) 3 - 1) ∧ I (o + 1) 4 / 2 ^ rg.toNat % 2 = 0 := by omega
    obtain ⟨n9, rfl⟩ := Int.eq_ofNat_of_zero_le (show 0 ≤ rg by omega)
    refine z_aload_n C dX7_stack_13 rfl ?_
    refine z_callVd C (ci := 7) rfl (by decide) (by first | assumption | exact hM.1) (mX7_record l G hM hR) (cwV 0 C.2.2.2.2.1 gv7_107 rfl rfl rfl hd_X7_record ⟨Nat.le_of_ble_eq_true rfl, Nat.le_of_ble_eq_true rfl⟩) rfl rfl (Nat.le_of_ble_eq_true rfl) dX7_stack_14 ⟨Nat.zero_le _, Nat.zero_le _⟩ ?_
    refine z_aload_n C dX7_stack_17 rfl ?_
    refine z_iload_n C dX7_stack_18 rfl ?_
    refine z_callVd C (ci := 7) rfl (by decide) (by first | assumption | exact hM.1) (mX7_isMoved l G hM (by rw [recM_1]; exact hO) (by rw [recM_1]; omega)) (cwV 1 C.2.2.2.2.1 gv7_130 rfl rfl rfl hd_X7_isMoved ⟨Nat.le_of_ble_eq_true rfl, Nat.le_of_ble_eq_true rfl⟩) rfl rfl (Nat.le_of_ble_eq_true rfl) dX7_stack_19 ⟨Nat.zero_le _, Nat.zero_le _⟩ ?_
    rw [recM_1]
    exact z_iret2 C hQ rfl dX7_stack_22 ⟨zr (by first | (rw [if_pos hb.1, if_pos hb.2]; rfl) | ((repeat' split) <;> omega)), rfl, rfl, rfl, by first | (rw [if_pos hb]; rfl) | rw [if_neg (by omega)], rfl⟩
  · refine z_iload_n C dX7_stack_11 rfl ?_
    exact z_iret2 C hQ rfl dX7_stack_12 ⟨zr (by first | (rw [if_pos hb.1, if_pos hb.2]; rfl) | ((repeat' split) <;> omega)), rfl, rfl, rfl, by first | (rw [if_pos hb]; rfl) | rw [if_neg (by omega)], rfl⟩

set_option maxHeartbeats 4000000 in
set_option maxRecDepth 100000 in
theorem mX7_take (l : Launch) (G : GG) {z : Nat} {K N : Nat → Nat} {I : MI} {R : MR} {o : Nat} (hM : ShM G z K N R o) (hO : Ok (I (o + 1))) (hR : 0 ≤ I o 2 ∧ I o 2 ≤ 6) {rg : Int} (hrg : -2147483648 ≤ rg ∧ rg < 2147483648) : Cod l G yX7_take (Cond.code yX7_take cX7_take 3 (some .int) :: wsL_law) ⟨7, 0, 0, 149⟩ [.ref o, .int (zI rg)] z K N I R (some (.int (zI (if 0 ≤ rg ∧ rg ≤ I (o + 1) 3 - 1 then (if I (o + 1) 4 / 2 ^ rg.toNat % 2 = 1 then prsA (moveF (I (o + 1)) rg.toNat) (moveF (I (o + 1)) rg.toNat 4) else -5) else -1)))) (if (0 ≤ rg ∧ rg ≤ I (o + 1) 3 - 1) ∧ I (o + 1) 4 / 2 ^ rg.toNat % 2 = 1 then va_up (recM I o) (o + 1) (moveF (I (o + 1)) rg.toNat) else I) R := by
  refine Con.of (own := RX7) (cc := cX7_take) (maxL := 3) (ret := (some .int)) (by decide +kernel) rfl rfl (Nat.le_of_ble_eq_true rfl) (by decide) rfl ?_
  intro p e9 s mt args below meth c Q hin hQ C
  have h3 := hO.2.2.2.1
  refine z_aload_n C dX7_take_0 rfl ?_
  refine z_iload_n C dX7_take_1 rfl ?_
  refine z_iconst C dX7_take_2 ?_
  refine z_callVd C (ci := 7) rfl (by decide) (by first | assumption | exact hM.1) (mX7_whyNotMoved l G hM hO hrg (by omega)) (cwV 2 C.2.2.2.2.1 gv7_126 rfl rfl rfl hd_X7_whyNotMoved ⟨Nat.le_of_ble_eq_true rfl, Nat.le_of_ble_eq_true rfl⟩) rfl rfl (Nat.le_of_ble_eq_true rfl) dX7_take_3 ⟨Nat.zero_le _, Nat.zero_le _⟩ ?_
  obtain ⟨w, hw, hw2⟩ : ∃ w : Int, w = (if 0 ≤ rg ∧ rg ≤ I (o + 1) 3 - 1 then (if I (o + 1) 4 / 2 ^ rg.toNat % 2 = 1 then 0 else -5) else -1) ∧ ((w = -1 ∧ ¬ (0 ≤ rg ∧ rg ≤ I (o + 1) 3 - 1)) ∨ (w = -5 ∧ (0 ≤ rg ∧ rg ≤ I (o + 1) 3 - 1) ∧ ¬ I (o + 1) 4 / 2 ^ rg.toNat % 2 = 1) ∨ (w = 0 ∧ (0 ≤ rg ∧ rg ≤ I (o + 1) 3 - 1) ∧ I (o + 1) 4 / 2 ^ rg.toNat % 2 = 1)) := ⟨_, rfl, (by (repeat' split) <;> omega)⟩
  rw [← hw]
  refine z_istore_n C dX7_take_6 (by decide) rfl ?_
  refine z_iload_n C dX7_take_7 rfl ?_
  refine z_if_ge C (tgt := 13) dX7_take_8 (by decide) (by first | omega | exact b2i_r) (fun h8 => ?_) (fun h8 => ?_)
  · have hb : (0 ≤ rg ∧ rg ≤ I (o + 1) 3 - 1) ∧ I (o + 1) 4 / 2 ^ rg.toNat % 2 = 1 := by omega
    obtain ⟨n9, rfl⟩ := Int.eq_ofNat_of_zero_le (show 0 ≤ rg by omega)
    refine z_aload_n C dX7_take_13 rfl ?_
    refine z_callVd C (ci := 7) rfl (by decide) (by first | assumption | exact hM.1) (mX7_record l G hM hR) (cwV 0 C.2.2.2.2.1 gv7_107 rfl rfl rfl hd_X7_record ⟨Nat.le_of_ble_eq_true rfl, Nat.le_of_ble_eq_true rfl⟩) rfl rfl (Nat.le_of_ble_eq_true rfl) dX7_take_14 ⟨Nat.zero_le _, Nat.zero_le _⟩ ?_
    refine z_aload_n C dX7_take_17 rfl ?_
    refine z_iload_n C dX7_take_18 rfl ?_
    refine z_callVd C (ci := 7) rfl (by decide) (by first | assumption | exact hM.1) (mX7_isMoved l G hM (by rw [recM_1]; exact hO) (by rw [recM_1]; omega)) (cwV 1 C.2.2.2.2.1 gv7_130 rfl rfl rfl hd_X7_isMoved ⟨Nat.le_of_ble_eq_true rfl, Nat.le_of_ble_eq_true rfl⟩) rfl rfl (Nat.le_of_ble_eq_true rfl) dX7_take_19 ⟨Nat.zero_le _, Nat.zero_le _⟩ ?_
    rw [recM_1]
    exact z_iret2 C hQ rfl dX7_take_22 ⟨zr (by first | (rw [if_pos hb.1, if_pos hb.2]; rfl) | ((repeat' split) <;> omega)), rfl, rfl, rfl, by first | (rw [if_pos hb]; rfl) | rw [if_neg (by omega)], rfl⟩
  · refine z_iload_n C dX7_take_11 rfl ?_
    exact z_iret2 C hQ rfl dX7_take_12 ⟨zr (by first | (rw [if_pos hb.1, if_pos hb.2]; rfl) | ((repeat' split) <;> omega)), rfl, rfl, rfl, by first | (rw [if_pos hb]; rfl) | rw [if_neg (by omega)], rfl⟩

set_option maxHeartbeats 4000000 in
set_option maxRecDepth 100000 in
theorem mX7_isError (l : Launch) (G : GG) {z : Nat} {K N : Nat → Nat} {I : MI} {R : MR} {er : Int} (her : -2147483648 ≤ er ∧ er < 2147483648) : Cod l G yX7_isError (Cond.code yX7_isError cX7_isError 1 (some .boolean) :: wsL_law) ⟨1, 0, 0, 22⟩ [.int (zI er)] z K N I R (some (.int (zI (b2i (-99 ≤ er ∧ er ≤ 99))))) I R := by
  refine Con.of (own := RX7) (cc := cX7_isError) (maxL := 1) (ret := (some .boolean)) (by decide +kernel) rfl rfl (Nat.le_of_ble_eq_true rfl) (by decide) rfl ?_
  intro p e9 s mt args below meth c Q hin hQ C
  refine z_iload_n C dX7_isError_0 rfl ?_
  refine z_bipush C dX7_isError_1 (by decide) ?_
  refine z_bipush C dX7_isError_3 (by decide) ?_
  refine z_callSd C (mX7_within l G (by omega) (by omega) (by omega)) (va_cwS 3 C.2.2.2.2.1 gv7_39 rfl rfl rfl hs_X7_within ⟨Nat.le_of_ble_eq_true rfl, Nat.le_of_ble_eq_true rfl⟩) rfl rfl (Nat.le_of_ble_eq_true rfl) dX7_isError_5 ⟨Nat.zero_le _, Nat.zero_le _⟩ ?_
  exact z_zret2 C hQ rfl (by first | exact Or.inl rfl | exact Or.inr rfl | exact b2i_c | omega) dX7_isError_8 ⟨rfl, rfl, rfl, rfl, rfl, rfl⟩

set_option maxHeartbeats 4000000 in
set_option maxRecDepth 100000 in
theorem mX7_whyNoGauge (l : Launch) (G : GG) {z : Nat} {K N : Nat → Nat} {I : MI} {R : MR} {o : Nat} (hM : ShM G z K N R o) (hO : Ok (I (o + 1))) {er pl sp : Int} (her : -2147483648 ≤ er ∧ er < 2147483648) (hpl : -2147483648 ≤ pl ∧ pl < 2147483648) (hsp : -2147483648 ≤ sp ∧ sp < 2147483648) : Cod l G yX7_whyNoGauge (Cond.code yX7_whyNoGauge cX7_whyNoGauge 4 (some .int) :: wsL_law) ⟨2, 0, 0, 42⟩ [.ref o, .int (zI er), .int (zI pl), .int (zI sp)] z K N I R (some (.int (zI (if (-99 ≤ er ∧ er ≤ 99) ∧ (0 ≤ pl ∧ pl ≤ 99) ∧ (1 ≤ sp ∧ sp ≤ 99) then (if I (o + 1) 5 = 6 then -4 else 0) else -2)))) I R := by
  refine Con.of (own := RX7) (cc := cX7_whyNoGauge) (maxL := 4) (ret := (some .int)) (by decide +kernel) rfl rfl (Nat.le_of_ble_eq_true rfl) (by decide) rfl ?_
  intro p e9 s mt args below meth c Q hin hQ C
  obtain ⟨ho, ⟨r0, r1, r3, r4, r5, r7, r8⟩, ⟨k1, k2, k3, k4, k5, k6, k7⟩, n1, n2, n3, n4, n5, n6, n7⟩ := id hM
  have h5 := hO.2.2.2.2.2.1
  refine z_iload_n C dX7_whyNoGauge_0 rfl ?_
  refine z_callSd C (mX7_isError l G her) (va_cwS 1 C.2.2.2.2.1 gv7_133 rfl rfl rfl hs_X7_isError ⟨Nat.le_of_ble_eq_true rfl, Nat.le_of_ble_eq_true rfl⟩) rfl rfl (Nat.le_of_ble_eq_true rfl) dX7_whyNoGauge_1 ⟨Nat.zero_le _, Nat.zero_le _⟩ ?_
  refine z_if_eq C (tgt := 27) dX7_whyNoGauge_4 (by decide) (by first | omega | exact b2i_r) (fun h4 => ?_) (fun h4 => ?_)
  · refine z_bipush C dX7_whyNoGauge_27 (by decide) ?_
    exact z_iret2 C hQ rfl dX7_whyNoGauge_29 ⟨zr (by first | ((repeat' split) <;> omega) | rw [if_neg (by have := b2i_0.mp h24; omega)] | rw [if_neg (by have := b2i_0.mp h14; omega)] | rw [if_neg (by have := b2i_0.mp h4; omega)]), rfl, rfl, rfl, rfl, rfl⟩
  · have g1 := b2i_1.mp h4
    refine z_iload_n C dX7_whyNoGauge_7 rfl ?_
    refine z_iconst C dX7_whyNoGauge_8 ?_
    refine z_bipush C dX7_whyNoGauge_9 (by decide) ?_
    refine z_callSd C (mX7_within l G (by omega) (by omega) (by omega)) (va_cwS 3 C.2.2.2.2.1 gv7_39 rfl rfl rfl hs_X7_within ⟨Nat.le_of_ble_eq_true rfl, Nat.le_of_ble_eq_true rfl⟩) rfl rfl (Nat.le_of_ble_eq_true rfl) dX7_whyNoGauge_11 ⟨Nat.zero_le _, Nat.zero_le _⟩ ?_
    refine z_if_eq C (tgt := 27) dX7_whyNoGauge_14 (by decide) (by first | omega | exact b2i_r) (fun h14 => ?_) (fun h14 => ?_)
    · refine z_bipush C dX7_whyNoGauge_27 (by decide) ?_
      exact z_iret2 C hQ rfl dX7_whyNoGauge_29 ⟨zr (by first | ((repeat' split) <;> omega) | rw [if_neg (by have := b2i_0.mp h24; omega)] | rw [if_neg (by have := b2i_0.mp h14; omega)] | rw [if_neg (by have := b2i_0.mp h4; omega)]), rfl, rfl, rfl, rfl, rfl⟩
    · have g2 := b2i_1.mp h14
      refine z_iload_n C dX7_whyNoGauge_17 rfl ?_
      refine z_iconst C dX7_whyNoGauge_18 ?_
      refine z_bipush C dX7_whyNoGauge_19 (by decide) ?_
      refine z_callSd C (mX7_within l G (by omega) (by omega) (by omega)) (va_cwS 3 C.2.2.2.2.1 gv7_39 rfl rfl rfl hs_X7_within ⟨Nat.le_of_ble_eq_true rfl, Nat.le_of_ble_eq_true rfl⟩) rfl rfl (Nat.le_of_ble_eq_true rfl) dX7_whyNoGauge_21 ⟨Nat.zero_le _, Nat.zero_le _⟩ ?_
      refine z_if_ne C (tgt := 30) dX7_whyNoGauge_24 (by decide) (by first | omega | exact b2i_r) (fun h24 => ?_) (fun h24 => ?_)
      · have g3 := b2i_1.mp h24
        refine z_aload_n C dX7_whyNoGauge_30 rfl ?_
        refine z_gR C (ci := 7) (k := 0) rfl (by decide) rfl (by decide) wl_7 wq_4_3 (by decide) dX7_whyNoGauge_31 (by assumption) (by assumption) ?_
        refine z_iconst C dX7_whyNoGauge_34 ?_
        refine z_ialdk C (5) dX7_whyNoGauge_35 (by assumption) (by first | rfl | omega) (by omega) (by omega) ?_
        refine z_bipush C dX7_whyNoGauge_36 (by decide) ?_
        refine z_icmp_ne C (tgt := 46) dX7_whyNoGauge_38 (by decide) (by first | omega | exact b2i_r) (by first | omega | exact b2i_r) (fun h38 => ?_) (fun h38 => ?_)
        · refine z_iconst C dX7_whyNoGauge_46 ?_
          exact z_iret2 C hQ rfl dX7_whyNoGauge_47 ⟨zr (by first | ((repeat' split) <;> omega) | rw [if_neg (by have := b2i_0.mp h24; omega)] | rw [if_neg (by have := b2i_0.mp h14; omega)] | rw [if_neg (by have := b2i_0.mp h4; omega)]), rfl, rfl, rfl, rfl, rfl⟩
        · refine z_bipush C dX7_whyNoGauge_41 (by decide) ?_
          refine z_goto C (tgt := 47) dX7_whyNoGauge_43 (by decide) ?_
          exact z_iret2 C hQ rfl dX7_whyNoGauge_47 ⟨zr (by first | ((repeat' split) <;> omega) | rw [if_neg (by have := b2i_0.mp h24; omega)] | rw [if_neg (by have := b2i_0.mp h14; omega)] | rw [if_neg (by have := b2i_0.mp h4; omega)]), rfl, rfl, rfl, rfl, rfl⟩
      · refine z_bipush C dX7_whyNoGauge_27 (by decide) ?_
        exact z_iret2 C hQ rfl dX7_whyNoGauge_29 ⟨zr (by first | ((repeat' split) <;> omega) | rw [if_neg (by have := b2i_0.mp h24; omega)] | rw [if_neg (by have := b2i_0.mp h14; omega)] | rw [if_neg (by have := b2i_0.mp h4; omega)]), rfl, rfl, rfl, rfl, rfl⟩

set_option maxHeartbeats 4000000 in
set_option maxRecDepth 100000 in
theorem mX7_comesGauge (l : Launch) (G : GG) {z : Nat} {K N : Nat → Nat} {I : MI} {R : MR} {o : Nat} (hM : ShM G z K N R o) (hO : Ok (I (o + 1))) (h6 : I (o + 1) 5 < 6) {er pl sp : Int} (her : -99 ≤ er ∧ er ≤ 99) (hpl : 0 ≤ pl ∧ pl ≤ 99) (hsp : 1 ≤ sp ∧ sp ≤ 99) : Cod l G yX7_comesGauge (Cond.code yX7_comesGauge cX7_comesGauge 6 (some .int) :: wsL_law) ⟨5, 0, 0, 107⟩ [.ref o, .int (zI er), .int (zI pl), .int (zI sp)] z K N I R (some (.int (zI (I (o + 1) 5)))) (va_up I (o + 1) (gaugeF (I (o + 1)) er pl sp)) R := by
  refine Con.of (own := RX7) (cc := cX7_comesGauge) (maxL := 6) (ret := (some .int)) (by decide +kernel) rfl rfl (Nat.le_of_ble_eq_true rfl) (by decide) rfl ?_
  intro p e9 s mt args below meth c Q hin hQ C
  obtain ⟨ho, ⟨r0, r1, r3, r4, r5, r7, r8⟩, ⟨k1, k2, k3, k4, k5, k6, k7⟩, n1, n2, n3, n4, n5, n6, n7⟩ := id hM
  have h5 := hO.2.2.2.2.2.1
  have hloop : ∀ (n : Nat) (g k : Nat), g < 6 → k ≤ 36 → I (o + 1) 5 = (g : Int) → 36 - k < n → Zq p l e9 ⟨5, 0, 0, 107⟩ s mt args below meth c G 6 Q 0 0 z K N (va_up I (o + 1) (zeroK g k (I (o + 1)))) R 11 [(0, .ref o), (1, .int (zI er)), (2, .int (zI pl)), (3, .int (zI sp)), (4, .int (zI (g : Int))), (5, .int (zI (k : Int)))] [] := by
    intro n
    induction n with
    | zero => intro g k h0 h1 hg h2; exact absurd h2 (by omega)
    | succ n ih =>
      intro g k h0 h1 hg h2
      refine z_iload C dX7_comesGauge_11 rfl ?_
      refine z_bipush C dX7_comesGauge_13 (by decide) ?_
      refine z_icmp_ge C (tgt := 33) dX7_comesGauge_15 (by decide) (by first | omega | exact b2i_r) (by first | omega | exact b2i_r) (fun h15 => ?_) (fun h15 => ?_)
      · rw [show k = 36 by omega]
        refine z_aload_n C dX7_comesGauge_33 rfl ?_
        refine z_iload C dX7_comesGauge_34 rfl ?_
        refine z_iconst C dX7_comesGauge_36 ?_
        refine z_iload_n C dX7_comesGauge_37 rfl ?_
        refine z_callVd C (ci := 7) rfl (by decide) (by first | assumption | exact hM.1) (mX7_setPart l G hM (by omega) (by omega)) (cwV 3 C.2.2.2.2.1 gv7_74 rfl rfl rfl hd_X7_setPart ⟨Nat.le_of_ble_eq_true rfl, Nat.le_of_ble_eq_true rfl⟩) rfl rfl (Nat.le_of_ble_eq_true rfl) dX7_comesGauge_38 ⟨Nat.zero_le _, Nat.zero_le _⟩ ?_
        rw [show (20 + 36 * (g : Int) + 0).toNat = 20 + 36 * g by omega, u2_vst]
        refine z_aload_n C dX7_comesGauge_41 rfl ?_
        refine z_iload C dX7_comesGauge_42 rfl ?_
        refine z_iconst C dX7_comesGauge_44 ?_
        refine z_iload_n C dX7_comesGauge_45 rfl ?_
        refine z_callVd C (ci := 7) rfl (by decide) (by first | assumption | exact hM.1) (mX7_setPart l G hM (by omega) (by omega)) (cwV 3 C.2.2.2.2.1 gv7_74 rfl rfl rfl hd_X7_setPart ⟨Nat.le_of_ble_eq_true rfl, Nat.le_of_ble_eq_true rfl⟩) rfl rfl (Nat.le_of_ble_eq_true rfl) dX7_comesGauge_46 ⟨Nat.zero_le _, Nat.zero_le _⟩ ?_
        rw [show (20 + 36 * (g : Int) + 1).toNat = 21 + 36 * g by omega, u2_vst]
        refine z_aload_n C dX7_comesGauge_49 rfl ?_
        refine z_iload C dX7_comesGauge_50 rfl ?_
        refine z_iconst C dX7_comesGauge_52 ?_
        refine z_iload_n C dX7_comesGauge_53 rfl ?_
        refine z_callVd C (ci := 7) rfl (by decide) (by first | assumption | exact hM.1) (mX7_setPart l G hM (by omega) (by omega)) (cwV 3 C.2.2.2.2.1 gv7_74 rfl rfl rfl hd_X7_setPart ⟨Nat.le_of_ble_eq_true rfl, Nat.le_of_ble_eq_true rfl⟩) rfl rfl (Nat.le_of_ble_eq_true rfl) dX7_comesGauge_54 ⟨Nat.zero_le _, Nat.zero_le _⟩ ?_
        rw [show (20 + 36 * (g : Int) + 2).toNat = 22 + 36 * g by omega, u2_vst]
        refine z_aload_n C dX7_comesGauge_57 rfl ?_
        refine z_gR C (ci := 7) (k := 0) rfl (by decide) rfl (by decide) wl_7 wq_4_3 (by decide) dX7_comesGauge_58 (by assumption) (by assumption) ?_
        refine z_iconst C dX7_comesGauge_61 ?_
        refine z_dup2 C dX7_comesGauge_62 rfl rfl ?_
        refine z_ialdk C (5) dX7_comesGauge_63 (by assumption) (by first | rfl | omega) (by omega) (by omega) ?_
        rw [va_up_s, st1_n (by omega), st1_n (by omega), st1_n (by omega), show zeroK g 36 (I (o + 1)) 5 = I (o + 1) 5 from if_neg (by omega)]
        refine z_iconst C dX7_comesGauge_64 ?_
        refine z_iadd C dX7_comesGauge_65 ?_
        refine z_iastk C (5) dX7_comesGauge_66 (by assumption) (by first | rfl | omega) (by omega) (by omega) ?_
        rw [u2_vst]
        have hg2 : (I (o + 1) 5).toNat = g := by omega
        have hOg : Ok (gaugeV (I (o + 1)) g er pl sp) := by rw [← hg2]; exact hO.h_gaugeV h6 her hpl hsp
        have hg5 : gaugeV (I (o + 1)) g er pl sp 5 = I (o + 1) 5 + 1 := st1_s _ _ _
        refine z_aload_n C dX7_comesGauge_67 rfl ?_
        refine z_iload C dX7_comesGauge_68 rfl ?_
        refine z_callVd C (ci := 7) rfl (by decide) (by first | assumption | exact hM.1) (mX7_handGoes l G hM (by rw [va_up_s]; exact hOg) (g := g) (by rw [va_up_s]; show (g : Int) < gaugeV (I (o + 1)) g er pl sp 5; omega)) (cwV 1 C.2.2.2.2.1 gv7_78 rfl rfl rfl hd_X7_handGoes ⟨Nat.le_of_ble_eq_true rfl, Nat.le_of_ble_eq_true rfl⟩) rfl rfl (Nat.le_of_ble_eq_true rfl) dX7_comesGauge_70 ⟨Nat.zero_le _, Nat.zero_le _⟩ ?_
        rw [u2_vst, va_up_s]
        refine z_iload C dX7_comesGauge_73 rfl ?_
        exact z_iret2 C hQ rfl dX7_comesGauge_75 ⟨zr hg.symm, rfl, rfl, rfl, by unfold gaugeF; rw [hg2]; rfl, rfl⟩
      · refine z_aload_n C dX7_comesGauge_18 rfl ?_
        refine z_iload C dX7_comesGauge_19 rfl ?_
        refine z_iload C dX7_comesGauge_21 rfl ?_
        refine z_iconst C dX7_comesGauge_23 ?_
        refine z_callVd C (ci := 7) rfl (by decide) (by first | assumption | exact hM.1) (mX7_setPart l G hM (by omega) (by omega)) (cwV 3 C.2.2.2.2.1 gv7_74 rfl rfl rfl hd_X7_setPart ⟨Nat.le_of_ble_eq_true rfl, Nat.le_of_ble_eq_true rfl⟩) rfl rfl (Nat.le_of_ble_eq_true rfl) dX7_comesGauge_24 ⟨Nat.zero_le _, Nat.zero_le _⟩ ?_
        rw [u2_vst]
        refine z_mem (I' := va_up I (o + 1) (zeroK g (k + 1) (I (o + 1)))) ?_ rfl ?_
        · congr 1
          funext j
          unfold st1 zeroK
          by_cases hj : j = 20 + 36 * g + k
          · rw [if_pos (by omega), if_pos (by omega)]
          · rw [if_neg (by omega)]
            by_cases h : 20 + 36 * g ≤ j ∧ j < 20 + 36 * g + k
            · rw [if_pos h, if_pos (by omega)]
            · rw [if_neg h, if_neg (by omega)]
        refine z_iinc C dX7_comesGauge_27 rfl (by decide) rfl ?_
        refine z_goto C (tgt := 11) dX7_comesGauge_30 (by decide) ?_
        exact ih g (k + 1) h0 (by omega) hg (by omega)
  refine z_aload_n C dX7_comesGauge_0 rfl ?_
  refine z_gR C (ci := 7) (k := 0) rfl (by decide) rfl (by decide) wl_7 wq_4_3 (by decide) dX7_comesGauge_1 (by assumption) (by assumption) ?_
  refine z_iconst C dX7_comesGauge_4 ?_
  refine z_ialdk C (5) dX7_comesGauge_5 (by assumption) (by first | rfl | omega) (by omega) (by omega) ?_
  obtain ⟨g, hg⟩ : ∃ g : Nat, I (o + 1) 5 = (g : Int) := ⟨(I (o + 1) 5).toNat, by omega⟩
  rw [hg]
  refine z_istore C dX7_comesGauge_6 (by decide) rfl ?_
  refine z_iconst C dX7_comesGauge_8 ?_
  refine z_istore C dX7_comesGauge_9 (by decide) rfl ?_
  refine z_mem (I' := va_up I (o + 1) (zeroK g 0 (I (o + 1)))) (by rw [show zeroK g 0 (I (o + 1)) = I (o + 1) from funext fun j => if_neg (by omega), va_upS]) rfl ?_
  exact hloop 37 g 0 (by omega) (by omega) hg (by omega)

set_option maxHeartbeats 4000000 in
set_option maxRecDepth 100000 in
theorem mX7_gauge (l : Launch) (G : GG) {z : Nat} {K N : Nat → Nat} {I : MI} {R : MR} {o : Nat} (hM : ShM G z K N R o) (hO : Ok (I (o + 1))) (hR : 0 ≤ I o 2 ∧ I o 2 ≤ 6) {er pl sp : Int} (her : -2147483648 ≤ er ∧ er < 2147483648) (hpl : -2147483648 ≤ pl ∧ pl < 2147483648) (hsp : -2147483648 ≤ sp ∧ sp < 2147483648) : Cod l G yX7_gauge (Cond.code yX7_gauge cX7_gauge 5 (some .int) :: wsL_law) ⟨6, 0, 0, 132⟩ [.ref o, .int (zI er), .int (zI pl), .int (zI sp)] z K N I R (some (.int (zI (if (-99 ≤ er ∧ er ≤ 99) ∧ (0 ≤ pl ∧ pl ≤ 99) ∧ (1 ≤ sp ∧ sp ≤ 99) then (if I (o + 1) 5 = 6 then -4 else I (o + 1) 5) else -2)))) (if ((-99 ≤ er ∧ er ≤ 99) ∧ (0 ≤ pl ∧ pl ≤ 99) ∧ (1 ≤ sp ∧ sp ≤ 99)) ∧ ¬ I (o + 1) 5 = 6 then va_up (recM I o) (o + 1) (gaugeF (I (o + 1)) er pl sp) else I) R := by
  refine Con.of (own := RX7) (cc := cX7_gauge) (maxL := 5) (ret := (some .int)) (by decide +kernel) rfl rfl (Nat.le_of_ble_eq_true rfl) (by decide) rfl ?_
  intro p e9 s mt args below meth c Q hin hQ C
  have h5 := hO.2.2.2.2.2.1
  refine z_aload_n C dX7_gauge_0 rfl ?_
  refine z_iload_n C dX7_gauge_1 rfl ?_
  refine z_iload_n C dX7_gauge_2 rfl ?_
  refine z_iload_n C dX7_gauge_3 rfl ?_
  refine z_callVd C (ci := 7) rfl (by decide) (by first | assumption | exact hM.1) (mX7_whyNoGauge l G hM hO her hpl hsp) (cwV 3 C.2.2.2.2.1 gv7_136 rfl rfl rfl hd_X7_whyNoGauge ⟨Nat.le_of_ble_eq_true rfl, Nat.le_of_ble_eq_true rfl⟩) rfl rfl (Nat.le_of_ble_eq_true rfl) dX7_gauge_4 ⟨Nat.zero_le _, Nat.zero_le _⟩ ?_
  obtain ⟨w, hw, hw2⟩ : ∃ w : Int, w = (if (-99 ≤ er ∧ er ≤ 99) ∧ (0 ≤ pl ∧ pl ≤ 99) ∧ (1 ≤ sp ∧ sp ≤ 99) then (if I (o + 1) 5 = 6 then -4 else 0) else -2) ∧ ((w = -2 ∧ ¬ ((-99 ≤ er ∧ er ≤ 99) ∧ (0 ≤ pl ∧ pl ≤ 99) ∧ (1 ≤ sp ∧ sp ≤ 99))) ∨ (w = -4 ∧ ((-99 ≤ er ∧ er ≤ 99) ∧ (0 ≤ pl ∧ pl ≤ 99) ∧ (1 ≤ sp ∧ sp ≤ 99)) ∧ I (o + 1) 5 = 6) ∨ (w = 0 ∧ ((-99 ≤ er ∧ er ≤ 99) ∧ (0 ≤ pl ∧ pl ≤ 99) ∧ (1 ≤ sp ∧ sp ≤ 99)) ∧ ¬ I (o + 1) 5 = 6)) := ⟨_, rfl, (by (repeat' split) <;> omega)⟩
  rw [← hw]
  refine z_istore C dX7_gauge_7 (by decide) rfl ?_
  refine z_iload C dX7_gauge_9 rfl ?_
  refine z_if_ge C (tgt := 17) dX7_gauge_11 (by decide) (by first | omega | exact b2i_r) (fun h11 => ?_) (fun h11 => ?_)
  · refine z_aload_n C dX7_gauge_17 rfl ?_
    refine z_callVd C (ci := 7) rfl (by decide) (by first | assumption | exact hM.1) (mX7_record l G hM hR) (cwV 0 C.2.2.2.2.1 gv7_107 rfl rfl rfl hd_X7_record ⟨Nat.le_of_ble_eq_true rfl, Nat.le_of_ble_eq_true rfl⟩) rfl rfl (Nat.le_of_ble_eq_true rfl) dX7_gauge_18 ⟨Nat.zero_le _, Nat.zero_le _⟩ ?_
    refine z_aload_n C dX7_gauge_21 rfl ?_
    refine z_iload_n C dX7_gauge_22 rfl ?_
    refine z_iload_n C dX7_gauge_23 rfl ?_
    refine z_iload_n C dX7_gauge_24 rfl ?_
    refine z_callVd C (ci := 7) rfl (by decide) (by first | assumption | exact hM.1) (mX7_comesGauge l G hM (by rw [recM_1]; exact hO) (by rw [recM_1]; omega) (by omega) (by omega) (by omega)) (cwV 3 C.2.2.2.2.1 gv7_140 rfl rfl rfl hd_X7_comesGauge ⟨Nat.le_of_ble_eq_true rfl, Nat.le_of_ble_eq_true rfl⟩) rfl rfl (Nat.le_of_ble_eq_true rfl) dX7_gauge_25 ⟨Nat.zero_le _, Nat.zero_le _⟩ ?_
    rw [recM_1]
    exact z_iret2 C hQ rfl dX7_gauge_28 ⟨zr (by (repeat' split) <;> omega), rfl, rfl, rfl, by first | rw [if_pos (by omega)] | rw [if_neg (by omega)], rfl⟩
  · refine z_iload C dX7_gauge_14 rfl ?_
    exact z_iret2 C hQ rfl dX7_gauge_16 ⟨zr (by (repeat' split) <;> omega), rfl, rfl, rfl, by first | rw [if_pos (by omega)] | rw [if_neg (by omega)], rfl⟩

set_option maxHeartbeats 4000000 in
set_option maxRecDepth 100000 in
theorem mX7_tune (l : Launch) (G : GG) {z : Nat} {K N : Nat → Nat} {I : MI} {R : MR} {o : Nat} (hM : ShM G z K N R o) (hO : Ok (I (o + 1))) (hR : 0 ≤ I o 2 ∧ I o 2 ≤ 6) {gg er : Int} (hgg : -2147483648 ≤ gg ∧ gg < 2147483648) (her : -2147483648 ≤ er ∧ er < 2147483648) : Cod l G yX7_tune (Cond.code yX7_tune cX7_tune 4 (some .int) :: wsL_law) ⟨5, 0, 0, 107⟩ [.ref o, .int (zI gg), .int (zI er)] z K N I R (some (.int (zI (if 0 ≤ gg ∧ gg ≤ I (o + 1) 5 - 1 then (if -99 ≤ er ∧ er ≤ 99 then I (o + 1) (20 + 36 * gg.toNat) + 100 else -2) else -1)))) (if (0 ≤ gg ∧ gg ≤ I (o + 1) 5 - 1) ∧ (-99 ≤ er ∧ er ≤ 99) then va_up (recM I o) (o + 1) (tuneF (I (o + 1)) gg.toNat er) else I) R := by
  refine Con.of (own := RX7) (cc := cX7_tune) (maxL := 4) (ret := (some .int)) (by decide +kernel) rfl rfl (Nat.le_of_ble_eq_true rfl) (by decide) rfl ?_
  intro p e9 s mt args below meth c Q hin hQ C
  have h5 := hO.2.2.2.2.2.1
  refine z_aload_n C dX7_tune_0 rfl ?_
  refine z_iload_n C dX7_tune_1 rfl ?_
  refine z_callVd C (ci := 7) rfl (by decide) (by first | assumption | exact hM.1) (mX7_isGauge l G hM hO hgg) (cwV 1 C.2.2.2.2.1 gv7_143 rfl rfl rfl hd_X7_isGauge ⟨Nat.le_of_ble_eq_true rfl, Nat.le_of_ble_eq_true rfl⟩) rfl rfl (Nat.le_of_ble_eq_true rfl) dX7_tune_2 ⟨Nat.zero_le _, Nat.zero_le _⟩ ?_
  refine z_if_eq C (tgt := 15) dX7_tune_5 (by decide) (by first | omega | exact b2i_r) (fun h5 => ?_) (fun h5 => ?_)
  · refine z_aload_n C dX7_tune_15 rfl ?_
    refine z_iload_n C dX7_tune_16 rfl ?_
    refine z_callVd C (ci := 7) rfl (by decide) (by first | assumption | exact hM.1) (mX7_isGauge l G hM hO hgg) (cwV 1 C.2.2.2.2.1 gv7_143 rfl rfl rfl hd_X7_isGauge ⟨Nat.le_of_ble_eq_true rfl, Nat.le_of_ble_eq_true rfl⟩) rfl rfl (Nat.le_of_ble_eq_true rfl) dX7_tune_17 ⟨Nat.zero_le _, Nat.zero_le _⟩ ?_
    refine z_if_eq C (tgt := 28) dX7_tune_20 (by decide) (by first | omega | exact b2i_r) (fun h20 => ?_) (fun h20 => ?_)
    · have g4 := b2i_0.mp h20
      refine z_iconst C dX7_tune_28 ?_
      exact z_iret2 C hQ rfl dX7_tune_29 ⟨zr (by first | (rw [if_pos hb.1, if_pos hb.2]; rfl) | rw [if_neg g4] | (rw [if_pos g3, if_neg (b2i_0.mp h12)])  | ((repeat' split) <;> omega)), rfl, rfl, rfl, by first | (rw [if_pos hb, hJ]; rfl) | rw [if_neg (fun z => g4 z.1)] | rw [if_neg (fun z => b2i_0.mp h12 z.2)] | rw [if_neg (fun z => b2i_0.mp h5 z.1)], rfl⟩
    · have g3 := b2i_1.mp h20
      refine z_bipush C dX7_tune_23 (by decide) ?_
      refine z_goto C (tgt := 29) dX7_tune_25 (by decide) ?_
      exact z_iret2 C hQ rfl dX7_tune_29 ⟨zr (by first | (rw [if_pos hb.1, if_pos hb.2]; rfl) | rw [if_neg g4] | (rw [if_pos g3, if_neg (b2i_0.mp h12)])  | ((repeat' split) <;> omega)), rfl, rfl, rfl, by first | (rw [if_pos hb, hJ]; rfl) | rw [if_neg (fun z => g4 z.1)] | rw [if_neg (fun z => b2i_0.mp h12 z.2)] | rw [if_neg (fun z => b2i_0.mp h5 z.1)], rfl⟩
  · have g1 := b2i_1.mp h5
    refine z_iload_n C dX7_tune_8 rfl ?_
    refine z_callSd C (mX7_isError l G her) (va_cwS 1 C.2.2.2.2.1 gv7_133 rfl rfl rfl hs_X7_isError ⟨Nat.le_of_ble_eq_true rfl, Nat.le_of_ble_eq_true rfl⟩) rfl rfl (Nat.le_of_ble_eq_true rfl) dX7_tune_9 ⟨Nat.zero_le _, Nat.zero_le _⟩ ?_
    refine z_if_ne C (tgt := 30) dX7_tune_12 (by decide) (by first | omega | exact b2i_r) (fun h12 => ?_) (fun h12 => ?_)
    · have g2 := b2i_1.mp h12
      have hb : (0 ≤ gg ∧ gg ≤ I (o + 1) 5 - 1) ∧ (-99 ≤ er ∧ er ≤ 99) := ⟨g1, g2⟩
      obtain ⟨n9, rfl⟩ := Int.eq_ofNat_of_zero_le (show 0 ≤ gg by omega)
      refine z_aload_n C dX7_tune_30 rfl ?_
      refine z_callVd C (ci := 7) rfl (by decide) (by first | assumption | exact hM.1) (mX7_record l G hM hR) (cwV 0 C.2.2.2.2.1 gv7_107 rfl rfl rfl hd_X7_record ⟨Nat.le_of_ble_eq_true rfl, Nat.le_of_ble_eq_true rfl⟩) rfl rfl (Nat.le_of_ble_eq_true rfl) dX7_tune_31 ⟨Nat.zero_le _, Nat.zero_le _⟩ ?_
      obtain ⟨J, hJ⟩ : ∃ J : MI, J = recM I o := ⟨_, rfl⟩
      rw [← hJ]
      have jr1 : J (o + 1) = I (o + 1) := by rw [hJ, recM_1]
      have ht5 : tuneV (I (o + 1)) n9 er 5 = I (o + 1) 5 := (if_neg (by omega)).trans (st1_n (by omega))
      refine z_aload_n C dX7_tune_34 rfl ?_
      refine z_iload_n C dX7_tune_35 rfl ?_
      refine z_iconst C dX7_tune_36 ?_
      refine z_callVd C (ci := 7) rfl (by decide) (by first | assumption | exact hM.1) (mX7_part l G hM (by omega) (by omega)) (cwV 2 C.2.2.2.2.1 gv7_64 rfl rfl rfl hd_X7_part ⟨Nat.le_of_ble_eq_true rfl, Nat.le_of_ble_eq_true rfl⟩) rfl rfl (Nat.le_of_ble_eq_true rfl) dX7_tune_37 ⟨Nat.zero_le _, Nat.zero_le _⟩ ?_
      rw [jr1, show (20 + 36 * (n9 : Int) + 0).toNat = 20 + 36 * n9 by omega]
      refine z_istore_n C dX7_tune_40 (by decide) rfl ?_
      refine z_aload_n C dX7_tune_41 rfl ?_
      refine z_iload_n C dX7_tune_42 rfl ?_
      refine z_iconst C dX7_tune_43 ?_
      refine z_iload_n C dX7_tune_44 rfl ?_
      refine z_callVd C (ci := 7) rfl (by decide) (by first | assumption | exact hM.1) (mX7_setPart l G hM (by omega) (by omega)) (cwV 3 C.2.2.2.2.1 gv7_74 rfl rfl rfl hd_X7_setPart ⟨Nat.le_of_ble_eq_true rfl, Nat.le_of_ble_eq_true rfl⟩) rfl rfl (Nat.le_of_ble_eq_true rfl) dX7_tune_45 ⟨Nat.zero_le _, Nat.zero_le _⟩ ?_
      rw [u2_st, jr1, show (20 + 36 * (n9 : Int) + 0).toNat = 20 + 36 * n9 by omega]
      refine z_aload_n C dX7_tune_48 rfl ?_
      refine z_iload_n C dX7_tune_49 rfl ?_
      refine z_callVd C (ci := 7) rfl (by decide) (by first | assumption | exact hM.1) (mX7_voids l G hM (g := n9) (by omega)) (cwV 1 C.2.2.2.2.1 gv7_82 rfl rfl rfl hd_X7_voids ⟨Nat.le_of_ble_eq_true rfl, Nat.le_of_ble_eq_true rfl⟩) rfl rfl (Nat.le_of_ble_eq_true rfl) dX7_tune_50 ⟨Nat.zero_le _, Nat.zero_le _⟩ ?_
      rw [va_up_s, va_up2]
      refine z_aload_n C dX7_tune_53 rfl ?_
      refine z_iload_n C dX7_tune_54 rfl ?_
      refine z_callVd C (ci := 7) rfl (by decide) (by first | assumption | exact hM.1) (mX7_handGoes l G hM (by rw [va_up_s]; exact hO.h_tuneV n9 hb.2) (g := n9) (by rw [va_up_s]; show (n9 : Int) < tuneV (I (o + 1)) n9 er 5; rw [ht5]; omega)) (cwV 1 C.2.2.2.2.1 gv7_78 rfl rfl rfl hd_X7_handGoes ⟨Nat.le_of_ble_eq_true rfl, Nat.le_of_ble_eq_true rfl⟩) rfl rfl (Nat.le_of_ble_eq_true rfl) dX7_tune_55 ⟨Nat.zero_le _, Nat.zero_le _⟩ ?_
      rw [u2_vst, va_up_s]
      refine z_iload_n C dX7_tune_58 rfl ?_
      refine z_bipush C dX7_tune_59 (by decide) ?_
      refine z_iadd C dX7_tune_61 ?_
      exact z_iret2 C hQ rfl dX7_tune_62 ⟨zr (by first | (rw [if_pos hb.1, if_pos hb.2]; rfl) | rw [if_neg g4] | (rw [if_pos g3, if_neg (b2i_0.mp h12)])  | ((repeat' split) <;> omega)), rfl, rfl, rfl, by first | (rw [if_pos hb, hJ]; rfl) | rw [if_neg (fun z => g4 z.1)] | rw [if_neg (fun z => b2i_0.mp h12 z.2)] | rw [if_neg (fun z => b2i_0.mp h5 z.1)], rfl⟩
    · refine z_aload_n C dX7_tune_15 rfl ?_
      refine z_iload_n C dX7_tune_16 rfl ?_
      refine z_callVd C (ci := 7) rfl (by decide) (by first | assumption | exact hM.1) (mX7_isGauge l G hM hO hgg) (cwV 1 C.2.2.2.2.1 gv7_143 rfl rfl rfl hd_X7_isGauge ⟨Nat.le_of_ble_eq_true rfl, Nat.le_of_ble_eq_true rfl⟩) rfl rfl (Nat.le_of_ble_eq_true rfl) dX7_tune_17 ⟨Nat.zero_le _, Nat.zero_le _⟩ ?_
      refine z_if_eq C (tgt := 28) dX7_tune_20 (by decide) (by first | omega | exact b2i_r) (fun h20 => ?_) (fun h20 => ?_)
      · have g4 := b2i_0.mp h20
        refine z_iconst C dX7_tune_28 ?_
        exact z_iret2 C hQ rfl dX7_tune_29 ⟨zr (by first | (rw [if_pos hb.1, if_pos hb.2]; rfl) | rw [if_neg g4] | (rw [if_pos g3, if_neg (b2i_0.mp h12)])  | ((repeat' split) <;> omega)), rfl, rfl, rfl, by first | (rw [if_pos hb, hJ]; rfl) | rw [if_neg (fun z => g4 z.1)] | rw [if_neg (fun z => b2i_0.mp h12 z.2)] | rw [if_neg (fun z => b2i_0.mp h5 z.1)], rfl⟩
      · have g3 := b2i_1.mp h20
        refine z_bipush C dX7_tune_23 (by decide) ?_
        refine z_goto C (tgt := 29) dX7_tune_25 (by decide) ?_
        exact z_iret2 C hQ rfl dX7_tune_29 ⟨zr (by first | (rw [if_pos hb.1, if_pos hb.2]; rfl) | rw [if_neg g4] | (rw [if_pos g3, if_neg (b2i_0.mp h12)])  | ((repeat' split) <;> omega)), rfl, rfl, rfl, by first | (rw [if_pos hb, hJ]; rfl) | rw [if_neg (fun z => g4 z.1)] | rw [if_neg (fun z => b2i_0.mp h12 z.2)] | rw [if_neg (fun z => b2i_0.mp h5 z.1)], rfl⟩

set_option maxHeartbeats 4000000 in
set_option maxRecDepth 100000 in
theorem mX7_whyNotCertified (l : Launch) (G : GG) {z : Nat} {K N : Nat → Nat} {I : MI} {R : MR} {o : Nat} (hM : ShM G z K N R o) (hO : Ok (I (o + 1))) {gg : Int} (hgg : -2147483648 ≤ gg ∧ gg < 2147483648) : Cod l G yX7_whyNotCertified (Cond.code yX7_whyNotCertified cX7_whyNotCertified 2 (some .int) :: wsL_law) ⟨2, 0, 0, 43⟩ [.ref o, .int (zI gg)] z K N I R (some (.int (zI (if 0 ≤ gg ∧ gg ≤ I (o + 1) 5 - 1 then (if I (o + 1) 3 = 0 then -5 else 0) else -1)))) I R := by
  refine Con.of (own := RX7) (cc := cX7_whyNotCertified) (maxL := 2) (ret := (some .int)) (by decide +kernel) rfl rfl (Nat.le_of_ble_eq_true rfl) (by decide) rfl ?_
  intro p e9 s mt args below meth c Q hin hQ C
  obtain ⟨ho, ⟨r0, r1, r3, r4, r5, r7, r8⟩, ⟨k1, k2, k3, k4, k5, k6, k7⟩, n1, n2, n3, n4, n5, n6, n7⟩ := id hM
  have h5 := hO.2.2.2.2.2.1
  have h3 := hO.2.2.2.1
  refine z_aload_n C dX7_whyNotCertified_0 rfl ?_
  refine z_iload_n C dX7_whyNotCertified_1 rfl ?_
  refine z_callVd C (ci := 7) rfl (by decide) (by first | assumption | exact hM.1) (mX7_isGauge l G hM hO hgg) (cwV 1 C.2.2.2.2.1 gv7_143 rfl rfl rfl hd_X7_isGauge ⟨Nat.le_of_ble_eq_true rfl, Nat.le_of_ble_eq_true rfl⟩) rfl rfl (Nat.le_of_ble_eq_true rfl) dX7_whyNotCertified_2 ⟨Nat.zero_le _, Nat.zero_le _⟩ ?_
  refine z_if_ne C (tgt := 12) dX7_whyNotCertified_5 (by decide) (by first | omega | exact b2i_r) (fun h5 => ?_) (fun h5 => ?_)
  · have hb := b2i_1.mp h5
    refine z_aload_n C dX7_whyNotCertified_12 rfl ?_
    refine z_gR C (ci := 7) (k := 0) rfl (by decide) rfl (by decide) wl_7 wq_4_3 (by decide) dX7_whyNotCertified_13 (by assumption) (by assumption) ?_
    refine z_iconst C dX7_whyNotCertified_16 ?_
    refine z_ialdk C (3) dX7_whyNotCertified_17 (by assumption) (by first | rfl | omega) (by omega) (by omega) ?_
    refine z_if_ne C (tgt := 26) dX7_whyNotCertified_18 (by decide) (by first | omega | exact b2i_r) (fun h18 => ?_) (fun h18 => ?_)
    · refine z_iconst C dX7_whyNotCertified_26 ?_
      exact z_iret2 C hQ rfl dX7_whyNotCertified_27 ⟨zr (by (repeat' split) <;> omega), rfl, rfl, rfl, rfl, rfl⟩
    · refine z_bipush C dX7_whyNotCertified_21 (by decide) ?_
      refine z_goto C (tgt := 27) dX7_whyNotCertified_23 (by decide) ?_
      exact z_iret2 C hQ rfl dX7_whyNotCertified_27 ⟨zr (by (repeat' split) <;> omega), rfl, rfl, rfl, rfl, rfl⟩
  · have hb := b2i_0.mp h5
    refine z_iconst C dX7_whyNotCertified_8 ?_
    refine z_goto C (tgt := 27) dX7_whyNotCertified_9 (by decide) ?_
    exact z_iret2 C hQ rfl dX7_whyNotCertified_27 ⟨zr (by (repeat' split) <;> omega), rfl, rfl, rfl, rfl, rfl⟩
end
section
def cntA (f : Nat → Int) (pl rc wh : Int) : Int := if wh = 0 then f 3 else if wh = 1 then f 5 else if wh = 2 then f 4 else if wh = 3 then massA f (f 4) else if wh = 4 then wgt (massA f (f 4)) (f 0) else if wh = 5 then prsA f (f 4) else if wh = 6 then certN f (f 5).toNat else if 7 ≤ wh ∧ wh ≤ 9 then f (wh - 7).toNat else if wh = 10 then pl else if wh = 11 then rc else -2
def ofG (f : Nat → Int) (g : Nat) (wh : Int) : Int := if wh = 0 then f (20 + 36 * g) + 100 else if wh = 1 then f (21 + 36 * g) else if wh = 2 then f (22 + 36 * g) else if wh = 3 then f (23 + 36 * g) else if wh = 4 then rnd (f (23 + 36 * g)) (f (22 + 36 * g)) * f (22 + 36 * g) else if wh = 5 then b2i (f (24 + 36 * g) = 1) else if wh = 6 then (if f (24 + 36 * g) = 1 then f (25 + 36 * g) else -6) else if wh = 7 then (if f (24 + 36 * g) = 1 then f (26 + 36 * g) else -6) else -2
theorem recM_k (I : MI) (o k : Nat) (h : k ≠ 0) (h2 : k ≠ 2) : recM I o (o + k) = I (o + k) := by
  unfold recM
  rw [u2_row (by omega), va_up_n (by omega)]
theorem recM_o (I : MI) (o k : Nat) (h : k ≠ 2) : recM I o o k = I o k := by
  unfold recM
  rw [u2_k h, va_up_n (by omega)]
theorem recM_h (I : MI) (o : Nat) : recM I o (o + 2) = recH (I (o + 1)) (I (o + 2)) (I o 2) := by
  unfold recM
  rw [u2_row (by omega), va_up_s]
theorem recM_2 (I : MI) (o : Nat) : recM I o o 2 = recN (I o 2) + 1 := by
  unfold recM
  rw [u2_s]
set_option maxHeartbeats 4000000 in
set_option maxRecDepth 100000 in
theorem mX7_count (l : Launch) (G : GG) {z : Nat} {K N : Nat → Nat} {I : MI} {R : MR} {o : Nat} (hM : ShM G z K N R o) (hO : Ok (I (o + 1))) {wh : Int} (hwh : -2147483648 ≤ wh ∧ wh < 2147483648) : Cod l G yX7_count (Cond.code yX7_count cX7_count 2 (some .int) :: wsL_law) ⟨4, 0, 0, 86⟩ [.ref o, .int (zI wh)] z K N I R (some (.int (zI (cntA (I (o + 1)) (I o 6) (I o 2) wh)))) I R := by
  refine Con.of (own := RX7) (cc := cX7_count) (maxL := 2) (ret := (some .int)) (by decide +kernel) rfl rfl (Nat.le_of_ble_eq_true rfl) (by decide) rfl ?_
  intro p e9 s mt args below meth c Q hin hQ C
  obtain ⟨ho, ⟨r0, r1, r3, r4, r5, r7, r8⟩, ⟨k1, k2, k3, k4, k5, k6, k7⟩, n1, n2, n3, n4, n5, n6, n7⟩ := id hM
  have h4 := Ok4 hO
  refine z_iload_n C dX7_count_0 rfl ?_
  by_cases hs1 : wh < 0 ∨ 11 < wh
  · refine z_tout C (tgt := 153) dX7_count_1 (by omega) hs1 (by decide) ?_
    refine z_bipush C dX7_count_153 (by decide) ?_
    exact z_iret2 C hQ rfl dX7_count_155 ⟨zr (by first | (subst hv; rfl) | (unfold cntA; (repeat' split) <;> omega)), rfl, rfl, rfl, rfl, rfl⟩
  · rcases (show wh = 0 ∨ wh = 1 ∨ wh = 2 ∨ wh = 3 ∨ wh = 4 ∨ wh = 5 ∨ wh = 6 ∨ wh = 7 ∨ wh = 8 ∨ wh = 9 ∨ wh = 10 ∨ wh = 11 by omega) with hv | hv | hv | hv | hv | hv | hv | hv | hv | hv | hv | hv
    · refine z_tin C (tgt := 64) 0 dX7_count_1 hv (by decide) (by decide) (by decide) rfl (by decide) ?_
      refine z_aload_n C dX7_count_64 rfl ?_
      refine z_gR C (ci := 7) (k := 0) rfl (by decide) rfl (by decide) wl_7 wq_4_3 (by decide) dX7_count_65 (by assumption) (by assumption) ?_
      refine z_iconst C dX7_count_68 ?_
      refine z_ialdk C (3) dX7_count_69 (by assumption) (by first | rfl | omega) (by omega) (by omega) ?_
      exact z_iret2 C hQ rfl dX7_count_70 ⟨zr (by first | (subst hv; rfl) | (unfold cntA; (repeat' split) <;> omega)), rfl, rfl, rfl, rfl, rfl⟩
    · refine z_tin C (tgt := 71) 1 dX7_count_1 hv (by decide) (by decide) (by decide) rfl (by decide) ?_
      refine z_aload_n C dX7_count_71 rfl ?_
      refine z_gR C (ci := 7) (k := 0) rfl (by decide) rfl (by decide) wl_7 wq_4_3 (by decide) dX7_count_72 (by assumption) (by assumption) ?_
      refine z_iconst C dX7_count_75 ?_
      refine z_ialdk C (5) dX7_count_76 (by assumption) (by first | rfl | omega) (by omega) (by omega) ?_
      exact z_iret2 C hQ rfl dX7_count_77 ⟨zr (by first | (subst hv; rfl) | (unfold cntA; (repeat' split) <;> omega)), rfl, rfl, rfl, rfl, rfl⟩
    · refine z_tin C (tgt := 78) 2 dX7_count_1 hv (by decide) (by decide) (by decide) rfl (by decide) ?_
      refine z_aload_n C dX7_count_78 rfl ?_
      refine z_gR C (ci := 7) (k := 0) rfl (by decide) rfl (by decide) wl_7 wq_4_3 (by decide) dX7_count_79 (by assumption) (by assumption) ?_
      refine z_iconst C dX7_count_82 ?_
      refine z_ialdk C (4) dX7_count_83 (by assumption) (by first | rfl | omega) (by omega) (by omega) ?_
      exact z_iret2 C hQ rfl dX7_count_84 ⟨zr (by first | (subst hv; rfl) | (unfold cntA; (repeat' split) <;> omega)), rfl, rfl, rfl, rfl, rfl⟩
    · refine z_tin C (tgt := 85) 3 dX7_count_1 hv (by decide) (by decide) (by decide) rfl (by decide) ?_
      refine z_aload_n C dX7_count_85 rfl ?_
      refine z_aload_n C dX7_count_86 rfl ?_
      refine z_gR C (ci := 7) (k := 0) rfl (by decide) rfl (by decide) wl_7 wq_4_3 (by decide) dX7_count_87 (by assumption) (by assumption) ?_
      refine z_iconst C dX7_count_90 ?_
      refine z_ialdk C (4) dX7_count_91 (by assumption) (by first | rfl | omega) (by omega) (by omega) ?_
      refine z_callVd C (ci := 7) rfl (by decide) (by first | assumption | exact hM.1) (mX7_massOf l G hM hO (by omega)) (cwV 1 C.2.2.2.2.1 gv7_51 rfl rfl rfl hd_X7_massOf ⟨Nat.le_of_ble_eq_true rfl, Nat.le_of_ble_eq_true rfl⟩) rfl rfl (Nat.le_of_ble_eq_true rfl) dX7_count_92 ⟨Nat.zero_le _, Nat.zero_le _⟩ ?_
      exact z_iret2 C hQ rfl dX7_count_95 ⟨zr (by first | (subst hv; rfl) | (unfold cntA; (repeat' split) <;> omega)), rfl, rfl, rfl, rfl, rfl⟩
    · refine z_tin C (tgt := 96) 4 dX7_count_1 hv (by decide) (by decide) (by decide) rfl (by decide) ?_
      refine z_aload_n C dX7_count_96 rfl ?_
      refine z_aload_n C dX7_count_97 rfl ?_
      refine z_aload_n C dX7_count_98 rfl ?_
      refine z_gR C (ci := 7) (k := 0) rfl (by decide) rfl (by decide) wl_7 wq_4_3 (by decide) dX7_count_99 (by assumption) (by assumption) ?_
      refine z_iconst C dX7_count_102 ?_
      refine z_ialdk C (4) dX7_count_103 (by assumption) (by first | rfl | omega) (by omega) (by omega) ?_
      refine z_callVd C (ci := 7) rfl (by decide) (by first | assumption | exact hM.1) (mX7_massOf l G hM hO (by omega)) (cwV 1 C.2.2.2.2.1 gv7_51 rfl rfl rfl hd_X7_massOf ⟨Nat.le_of_ble_eq_true rfl, Nat.le_of_ble_eq_true rfl⟩) rfl rfl (Nat.le_of_ble_eq_true rfl) dX7_count_104 ⟨Nat.zero_le _, Nat.zero_le _⟩ ?_
      refine z_aload_n C dX7_count_107 rfl ?_
      refine z_gR C (ci := 7) (k := 0) rfl (by decide) rfl (by decide) wl_7 wq_4_3 (by decide) dX7_count_108 (by assumption) (by assumption) ?_
      refine z_iconst C dX7_count_111 ?_
      refine z_ialdk C (0) dX7_count_112 (by assumption) (by first | rfl | omega) (by omega) (by omega) ?_
      refine z_callVd C (ci := 7) rfl (by decide) (by first | assumption | exact hM.1) (mX7_weightOf l G hM (massA_rng hO _) hO.1) (cwV 2 C.2.2.2.2.1 gv7_48 rfl rfl rfl hd_X7_weightOf ⟨Nat.le_of_ble_eq_true rfl, Nat.le_of_ble_eq_true rfl⟩) rfl rfl (Nat.le_of_ble_eq_true rfl) dX7_count_113 ⟨Nat.zero_le _, Nat.zero_le _⟩ ?_
      exact z_iret2 C hQ rfl dX7_count_116 ⟨zr (by first | (subst hv; rfl) | (unfold cntA; (repeat' split) <;> omega)), rfl, rfl, rfl, rfl, rfl⟩
    · refine z_tin C (tgt := 117) 5 dX7_count_1 hv (by decide) (by decide) (by decide) rfl (by decide) ?_
      refine z_aload_n C dX7_count_117 rfl ?_
      refine z_aload_n C dX7_count_118 rfl ?_
      refine z_gR C (ci := 7) (k := 0) rfl (by decide) rfl (by decide) wl_7 wq_4_3 (by decide) dX7_count_119 (by assumption) (by assumption) ?_
      refine z_iconst C dX7_count_122 ?_
      refine z_ialdk C (4) dX7_count_123 (by assumption) (by first | rfl | omega) (by omega) (by omega) ?_
      refine z_callVd C (ci := 7) rfl (by decide) (by first | assumption | exact hM.1) (mX7_pressureOf l G hM hO (by omega)) (cwV 1 C.2.2.2.2.1 gv7_67 rfl rfl rfl hd_X7_pressureOf ⟨Nat.le_of_ble_eq_true rfl, Nat.le_of_ble_eq_true rfl⟩) rfl rfl (Nat.le_of_ble_eq_true rfl) dX7_count_124 ⟨Nat.zero_le _, Nat.zero_le _⟩ ?_
      exact z_iret2 C hQ rfl dX7_count_127 ⟨zr (by first | (subst hv; rfl) | (unfold cntA; (repeat' split) <;> omega)), rfl, rfl, rfl, rfl, rfl⟩
    · refine z_tin C (tgt := 128) 6 dX7_count_1 hv (by decide) (by decide) (by decide) rfl (by decide) ?_
      refine z_aload_n C dX7_count_128 rfl ?_
      refine z_callVd C (ci := 7) rfl (by decide) (by first | assumption | exact hM.1) (mX7_certificates l G hM hO) (cwV 0 C.2.2.2.2.1 gv7_159 rfl rfl rfl hd_X7_certificates ⟨Nat.le_of_ble_eq_true rfl, Nat.le_of_ble_eq_true rfl⟩) rfl rfl (Nat.le_of_ble_eq_true rfl) dX7_count_129 ⟨Nat.zero_le _, Nat.zero_le _⟩ ?_
      exact z_iret2 C hQ rfl dX7_count_132 ⟨zr (by first | (subst hv; rfl) | (unfold cntA; (repeat' split) <;> omega)), rfl, rfl, rfl, rfl, rfl⟩
    · refine z_tin C (tgt := 133) 7 dX7_count_1 hv (by decide) (by decide) (by decide) rfl (by decide) ?_
      refine z_aload_n C dX7_count_133 rfl ?_
      refine z_gR C (ci := 7) (k := 0) rfl (by decide) rfl (by decide) wl_7 wq_4_3 (by decide) dX7_count_134 (by assumption) (by assumption) ?_
      refine z_iload_n C dX7_count_137 rfl ?_
      refine z_bipush C dX7_count_138 (by decide) ?_
      refine z_isub C dX7_count_140 ?_
      refine z_ialdk C ((wh - 7).toNat) dX7_count_141 (by assumption) (by first | rfl | omega) (by omega) (by omega) ?_
      exact z_iret2 C hQ rfl dX7_count_142 ⟨zr (by first | (subst hv; rfl) | (unfold cntA; (repeat' split) <;> omega)), rfl, rfl, rfl, rfl, rfl⟩
    · refine z_tin C (tgt := 133) 8 dX7_count_1 hv (by decide) (by decide) (by decide) rfl (by decide) ?_
      refine z_aload_n C dX7_count_133 rfl ?_
      refine z_gR C (ci := 7) (k := 0) rfl (by decide) rfl (by decide) wl_7 wq_4_3 (by decide) dX7_count_134 (by assumption) (by assumption) ?_
      refine z_iload_n C dX7_count_137 rfl ?_
      refine z_bipush C dX7_count_138 (by decide) ?_
      refine z_isub C dX7_count_140 ?_
      refine z_ialdk C ((wh - 7).toNat) dX7_count_141 (by assumption) (by first | rfl | omega) (by omega) (by omega) ?_
      exact z_iret2 C hQ rfl dX7_count_142 ⟨zr (by first | (subst hv; rfl) | (unfold cntA; (repeat' split) <;> omega)), rfl, rfl, rfl, rfl, rfl⟩
    · refine z_tin C (tgt := 133) 9 dX7_count_1 hv (by decide) (by decide) (by decide) rfl (by decide) ?_
      refine z_aload_n C dX7_count_133 rfl ?_
      refine z_gR C (ci := 7) (k := 0) rfl (by decide) rfl (by decide) wl_7 wq_4_3 (by decide) dX7_count_134 (by assumption) (by assumption) ?_
      refine z_iload_n C dX7_count_137 rfl ?_
      refine z_bipush C dX7_count_138 (by decide) ?_
      refine z_isub C dX7_count_140 ?_
      refine z_ialdk C ((wh - 7).toNat) dX7_count_141 (by assumption) (by first | rfl | omega) (by omega) (by omega) ?_
      exact z_iret2 C hQ rfl dX7_count_142 ⟨zr (by first | (subst hv; rfl) | (unfold cntA; (repeat' split) <;> omega)), rfl, rfl, rfl, rfl, rfl⟩
    · refine z_tin C (tgt := 143) 10 dX7_count_1 hv (by decide) (by decide) (by decide) rfl (by decide) ?_
      refine z_aload_n C dX7_count_143 rfl ?_
      refine z_gI C (ci := 7) (k := 6) rfl (by decide) rfl (by decide) wl_7 wq_22_5 rfl dX7_count_144 (by assumption) ?_
      exact z_iret2 C hQ rfl dX7_count_147 ⟨zr (by first | (subst hv; rfl) | (unfold cntA; (repeat' split) <;> omega)), rfl, rfl, rfl, rfl, rfl⟩
    · refine z_tin C (tgt := 148) 11 dX7_count_1 hv (by decide) (by decide) (by decide) rfl (by decide) ?_
      refine z_aload_n C dX7_count_148 rfl ?_
      refine z_gI C (ci := 7) (k := 2) rfl (by decide) rfl (by decide) wl_7 wq_8_6 rfl dX7_count_149 (by assumption) ?_
      exact z_iret2 C hQ rfl dX7_count_152 ⟨zr (by first | (subst hv; rfl) | (unfold cntA; (repeat' split) <;> omega)), rfl, rfl, rfl, rfl, rfl⟩

set_option maxHeartbeats 4000000 in
set_option maxRecDepth 100000 in
theorem mX7_ofGauge (l : Launch) (G : GG) {z : Nat} {K N : Nat → Nat} {I : MI} {R : MR} {o : Nat} (hM : ShM G z K N R o) (hO : Ok (I (o + 1))) {gg wh : Int} (hgg : -2147483648 ≤ gg ∧ gg < 2147483648) (hwh : -2147483648 ≤ wh ∧ wh < 2147483648) : Cod l G yX7_ofGauge (Cond.code yX7_ofGauge cX7_ofGauge 4 (some .int) :: wsL_law) ⟨2, 0, 0, 43⟩ [.ref o, .int (zI gg), .int (zI wh)] z K N I R (some (.int (zI (if 0 ≤ gg ∧ gg ≤ I (o + 1) 5 - 1 then ofG (I (o + 1)) gg.toNat wh else -1)))) I R := by
  refine Con.of (own := RX7) (cc := cX7_ofGauge) (maxL := 4) (ret := (some .int)) (by decide +kernel) rfl rfl (Nat.le_of_ble_eq_true rfl) (by decide) rfl ?_
  intro p e9 s mt args below meth c Q hin hQ C
  have h5 := hO.2.2.2.2.2.1
  refine z_aload_n C dX7_ofGauge_0 rfl ?_
  refine z_iload_n C dX7_ofGauge_1 rfl ?_
  refine z_callVd C (ci := 7) rfl (by decide) (by first | assumption | exact hM.1) (mX7_isGauge l G hM hO hgg) (cwV 1 C.2.2.2.2.1 gv7_143 rfl rfl rfl hd_X7_isGauge ⟨Nat.le_of_ble_eq_true rfl, Nat.le_of_ble_eq_true rfl⟩) rfl rfl (Nat.le_of_ble_eq_true rfl) dX7_ofGauge_2 ⟨Nat.zero_le _, Nat.zero_le _⟩ ?_
  refine z_if_ne C (tgt := 10) dX7_ofGauge_5 (by decide) (by first | omega | exact b2i_r) (fun h5 => ?_) (fun h5 => ?_)
  · have hb := b2i_1.mp h5
    obtain ⟨n9, rfl⟩ := Int.eq_ofNat_of_zero_le (show 0 ≤ gg by omega)
    obtain ⟨c1, c2, c3, c4, c5⟩ := hO.2.2.2.2.2.2.2 n9 (by omega)
    refine z_aload_n C dX7_ofGauge_10 rfl ?_
    refine z_iload_n C dX7_ofGauge_11 rfl ?_
    refine z_iconst C dX7_ofGauge_12 ?_
    refine z_callVd C (ci := 7) rfl (by decide) (by first | assumption | exact hM.1) (mX7_part l G hM (by omega) (by omega)) (cwV 2 C.2.2.2.2.1 gv7_64 rfl rfl rfl hd_X7_part ⟨Nat.le_of_ble_eq_true rfl, Nat.le_of_ble_eq_true rfl⟩) rfl rfl (Nat.le_of_ble_eq_true rfl) dX7_ofGauge_13 ⟨Nat.zero_le _, Nat.zero_le _⟩ ?_
    rw [show (20 + 36 * (n9 : Int) + 4).toNat = 24 + 36 * n9 by omega]
    refine z_iconst C dX7_ofGauge_16 ?_
    refine z_icmp_ne C (tgt := 24) dX7_ofGauge_17 (by decide) (by first | omega | exact b2i_r) (by first | omega | exact b2i_r) (fun h17 => ?_) (fun h17 => ?_)
    · refine z_iconst C dX7_ofGauge_24 ?_
      refine z_istore_n C dX7_ofGauge_25 (by decide) rfl ?_
      refine z_iload_n C dX7_ofGauge_26 rfl ?_
      by_cases hs27 : wh < 0 ∨ 7 < wh
      · refine z_tout C (tgt := 162) dX7_ofGauge_27 (by omega) hs27 (by decide) ?_
        refine z_bipush C dX7_ofGauge_162 (by decide) ?_
        exact z_iret2 C hQ rfl dX7_ofGauge_164 ⟨zr (by first | rw [if_neg g4] | (rw [if_pos hb]; subst hv; rfl) | (rw [if_pos hb]; subst hv; first | exact (b2i_t h17).symm | exact (b2i_f h17).symm | exact (if_pos h17).symm | exact (if_neg h17).symm | omega) | (rw [if_pos hb]; unfold ofG; (repeat' split) <;> omega)), rfl, rfl, rfl, rfl, rfl⟩
      · rcases (show wh = 0 ∨ wh = 1 ∨ wh = 2 ∨ wh = 3 ∨ wh = 4 ∨ wh = 5 ∨ wh = 6 ∨ wh = 7 by omega) with hv | hv | hv | hv | hv | hv | hv | hv
        · refine z_tin C (tgt := 72) 0 dX7_ofGauge_27 hv (by decide) (by decide) (by decide) rfl (by decide) ?_
          refine z_aload_n C dX7_ofGauge_72 rfl ?_
          refine z_iload_n C dX7_ofGauge_73 rfl ?_
          refine z_iconst C dX7_ofGauge_74 ?_
          refine z_callVd C (ci := 7) rfl (by decide) (by first | assumption | exact hM.1) (mX7_part l G hM (by omega) (by omega)) (cwV 2 C.2.2.2.2.1 gv7_64 rfl rfl rfl hd_X7_part ⟨Nat.le_of_ble_eq_true rfl, Nat.le_of_ble_eq_true rfl⟩) rfl rfl (Nat.le_of_ble_eq_true rfl) dX7_ofGauge_75 ⟨Nat.zero_le _, Nat.zero_le _⟩ ?_
          rw [show (20 + 36 * (n9 : Int) + 0).toNat = 20 + 36 * n9 by omega]
          refine z_bipush C dX7_ofGauge_78 (by decide) ?_
          refine z_iadd C dX7_ofGauge_80 ?_
          exact z_iret2 C hQ rfl dX7_ofGauge_81 ⟨zr (by first | rw [if_neg g4] | (rw [if_pos hb]; subst hv; rfl) | (rw [if_pos hb]; subst hv; first | exact (b2i_t h17).symm | exact (b2i_f h17).symm | exact (if_pos h17).symm | exact (if_neg h17).symm | omega) | (rw [if_pos hb]; unfold ofG; (repeat' split) <;> omega)), rfl, rfl, rfl, rfl, rfl⟩
        · refine z_tin C (tgt := 82) 1 dX7_ofGauge_27 hv (by decide) (by decide) (by decide) rfl (by decide) ?_
          refine z_aload_n C dX7_ofGauge_82 rfl ?_
          refine z_iload_n C dX7_ofGauge_83 rfl ?_
          refine z_iconst C dX7_ofGauge_84 ?_
          refine z_callVd C (ci := 7) rfl (by decide) (by first | assumption | exact hM.1) (mX7_part l G hM (by omega) (by omega)) (cwV 2 C.2.2.2.2.1 gv7_64 rfl rfl rfl hd_X7_part ⟨Nat.le_of_ble_eq_true rfl, Nat.le_of_ble_eq_true rfl⟩) rfl rfl (Nat.le_of_ble_eq_true rfl) dX7_ofGauge_85 ⟨Nat.zero_le _, Nat.zero_le _⟩ ?_
          rw [show (20 + 36 * (n9 : Int) + 1).toNat = 21 + 36 * n9 by omega]
          exact z_iret2 C hQ rfl dX7_ofGauge_88 ⟨zr (by first | rw [if_neg g4] | (rw [if_pos hb]; subst hv; rfl) | (rw [if_pos hb]; subst hv; first | exact (b2i_t h17).symm | exact (b2i_f h17).symm | exact (if_pos h17).symm | exact (if_neg h17).symm | omega) | (rw [if_pos hb]; unfold ofG; (repeat' split) <;> omega)), rfl, rfl, rfl, rfl, rfl⟩
        · refine z_tin C (tgt := 89) 2 dX7_ofGauge_27 hv (by decide) (by decide) (by decide) rfl (by decide) ?_
          refine z_aload_n C dX7_ofGauge_89 rfl ?_
          refine z_iload_n C dX7_ofGauge_90 rfl ?_
          refine z_iconst C dX7_ofGauge_91 ?_
          refine z_callVd C (ci := 7) rfl (by decide) (by first | assumption | exact hM.1) (mX7_part l G hM (by omega) (by omega)) (cwV 2 C.2.2.2.2.1 gv7_64 rfl rfl rfl hd_X7_part ⟨Nat.le_of_ble_eq_true rfl, Nat.le_of_ble_eq_true rfl⟩) rfl rfl (Nat.le_of_ble_eq_true rfl) dX7_ofGauge_92 ⟨Nat.zero_le _, Nat.zero_le _⟩ ?_
          rw [show (20 + 36 * (n9 : Int) + 2).toNat = 22 + 36 * n9 by omega]
          exact z_iret2 C hQ rfl dX7_ofGauge_95 ⟨zr (by first | rw [if_neg g4] | (rw [if_pos hb]; subst hv; rfl) | (rw [if_pos hb]; subst hv; first | exact (b2i_t h17).symm | exact (b2i_f h17).symm | exact (if_pos h17).symm | exact (if_neg h17).symm | omega) | (rw [if_pos hb]; unfold ofG; (repeat' split) <;> omega)), rfl, rfl, rfl, rfl, rfl⟩
        · refine z_tin C (tgt := 96) 3 dX7_ofGauge_27 hv (by decide) (by decide) (by decide) rfl (by decide) ?_
          refine z_aload_n C dX7_ofGauge_96 rfl ?_
          refine z_iload_n C dX7_ofGauge_97 rfl ?_
          refine z_iconst C dX7_ofGauge_98 ?_
          refine z_callVd C (ci := 7) rfl (by decide) (by first | assumption | exact hM.1) (mX7_part l G hM (by omega) (by omega)) (cwV 2 C.2.2.2.2.1 gv7_64 rfl rfl rfl hd_X7_part ⟨Nat.le_of_ble_eq_true rfl, Nat.le_of_ble_eq_true rfl⟩) rfl rfl (Nat.le_of_ble_eq_true rfl) dX7_ofGauge_99 ⟨Nat.zero_le _, Nat.zero_le _⟩ ?_
          rw [show (20 + 36 * (n9 : Int) + 3).toNat = 23 + 36 * n9 by omega]
          exact z_iret2 C hQ rfl dX7_ofGauge_102 ⟨zr (by first | rw [if_neg g4] | (rw [if_pos hb]; subst hv; rfl) | (rw [if_pos hb]; subst hv; first | exact (b2i_t h17).symm | exact (b2i_f h17).symm | exact (if_pos h17).symm | exact (if_neg h17).symm | omega) | (rw [if_pos hb]; unfold ofG; (repeat' split) <;> omega)), rfl, rfl, rfl, rfl, rfl⟩
        · refine z_tin C (tgt := 103) 4 dX7_ofGauge_27 hv (by decide) (by decide) (by decide) rfl (by decide) ?_
          refine z_aload_n C dX7_ofGauge_103 rfl ?_
          refine z_iload_n C dX7_ofGauge_104 rfl ?_
          refine z_iconst C dX7_ofGauge_105 ?_
          refine z_callVd C (ci := 7) rfl (by decide) (by first | assumption | exact hM.1) (mX7_part l G hM (by omega) (by omega)) (cwV 2 C.2.2.2.2.1 gv7_64 rfl rfl rfl hd_X7_part ⟨Nat.le_of_ble_eq_true rfl, Nat.le_of_ble_eq_true rfl⟩) rfl rfl (Nat.le_of_ble_eq_true rfl) dX7_ofGauge_106 ⟨Nat.zero_le _, Nat.zero_le _⟩ ?_
          rw [show (20 + 36 * (n9 : Int) + 3).toNat = 23 + 36 * n9 by omega]
          refine z_aload_n C dX7_ofGauge_109 rfl ?_
          refine z_iload_n C dX7_ofGauge_110 rfl ?_
          refine z_iconst C dX7_ofGauge_111 ?_
          refine z_callVd C (ci := 7) rfl (by decide) (by first | assumption | exact hM.1) (mX7_part l G hM (by omega) (by omega)) (cwV 2 C.2.2.2.2.1 gv7_64 rfl rfl rfl hd_X7_part ⟨Nat.le_of_ble_eq_true rfl, Nat.le_of_ble_eq_true rfl⟩) rfl rfl (Nat.le_of_ble_eq_true rfl) dX7_ofGauge_112 ⟨Nat.zero_le _, Nat.zero_le _⟩ ?_
          rw [show (20 + 36 * (n9 : Int) + 2).toNat = 22 + 36 * n9 by omega]
          refine z_callSd C (mX7_reads l G c4 c3) (va_cwS 2 C.2.2.2.2.1 gv7_94 rfl rfl rfl hs_X7_reads ⟨Nat.le_of_ble_eq_true rfl, Nat.le_of_ble_eq_true rfl⟩) rfl rfl (Nat.le_of_ble_eq_true rfl) dX7_ofGauge_115 ⟨Nat.zero_le _, Nat.zero_le _⟩ ?_
          exact z_iret2 C hQ rfl dX7_ofGauge_118 ⟨zr (by first | rw [if_neg g4] | (rw [if_pos hb]; subst hv; rfl) | (rw [if_pos hb]; subst hv; first | exact (b2i_t h17).symm | exact (b2i_f h17).symm | exact (if_pos h17).symm | exact (if_neg h17).symm | omega) | (rw [if_pos hb]; unfold ofG; (repeat' split) <;> omega)), rfl, rfl, rfl, rfl, rfl⟩
        · refine z_tin C (tgt := 119) 5 dX7_ofGauge_27 hv (by decide) (by decide) (by decide) rfl (by decide) ?_
          refine z_iload_n C dX7_ofGauge_119 rfl ?_
          refine z_if_eq C (tgt := 127) dX7_ofGauge_120 (by decide) (by first | omega | exact b2i_r) (fun h120 => ?_) (fun h120 => ?_)
          · refine z_iconst C dX7_ofGauge_127 ?_
            exact z_iret2 C hQ rfl dX7_ofGauge_128 ⟨zr (by first | rw [if_neg g4] | (rw [if_pos hb]; subst hv; rfl) | (rw [if_pos hb]; subst hv; first | exact (b2i_t h17).symm | exact (b2i_f h17).symm | exact (if_pos h17).symm | exact (if_neg h17).symm | omega) | (rw [if_pos hb]; unfold ofG; (repeat' split) <;> omega)), rfl, rfl, rfl, rfl, rfl⟩
          · refine z_iconst C dX7_ofGauge_123 ?_
            refine z_goto C (tgt := 128) dX7_ofGauge_124 (by decide) ?_
            exact z_iret2 C hQ rfl dX7_ofGauge_128 ⟨zr (by first | rw [if_neg g4] | (rw [if_pos hb]; subst hv; rfl) | (rw [if_pos hb]; subst hv; first | exact (b2i_t h17).symm | exact (b2i_f h17).symm | exact (if_pos h17).symm | exact (if_neg h17).symm | omega) | (rw [if_pos hb]; unfold ofG; (repeat' split) <;> omega)), rfl, rfl, rfl, rfl, rfl⟩
        · refine z_tin C (tgt := 129) 6 dX7_ofGauge_27 hv (by decide) (by decide) (by decide) rfl (by decide) ?_
          refine z_iload_n C dX7_ofGauge_129 rfl ?_
          refine z_if_eq C (tgt := 142) dX7_ofGauge_130 (by decide) (by first | omega | exact b2i_r) (fun h130 => ?_) (fun h130 => ?_)
          · refine z_bipush C dX7_ofGauge_142 (by decide) ?_
            exact z_iret2 C hQ rfl dX7_ofGauge_144 ⟨zr (by first | rw [if_neg g4] | (rw [if_pos hb]; subst hv; rfl) | (rw [if_pos hb]; subst hv; first | exact (b2i_t h17).symm | exact (b2i_f h17).symm | exact (if_pos h17).symm | exact (if_neg h17).symm | omega) | (rw [if_pos hb]; unfold ofG; (repeat' split) <;> omega)), rfl, rfl, rfl, rfl, rfl⟩
          · refine z_aload_n C dX7_ofGauge_133 rfl ?_
            refine z_iload_n C dX7_ofGauge_134 rfl ?_
            refine z_iconst C dX7_ofGauge_135 ?_
            refine z_callVd C (ci := 7) rfl (by decide) (by first | assumption | exact hM.1) (mX7_part l G hM (by omega) (by omega)) (cwV 2 C.2.2.2.2.1 gv7_64 rfl rfl rfl hd_X7_part ⟨Nat.le_of_ble_eq_true rfl, Nat.le_of_ble_eq_true rfl⟩) rfl rfl (Nat.le_of_ble_eq_true rfl) dX7_ofGauge_136 ⟨Nat.zero_le _, Nat.zero_le _⟩ ?_
            rw [show (20 + 36 * (n9 : Int) + 5).toNat = 25 + 36 * n9 by omega]
            refine z_goto C (tgt := 144) dX7_ofGauge_139 (by decide) ?_
            exact z_iret2 C hQ rfl dX7_ofGauge_144 ⟨zr (by first | rw [if_neg g4] | (rw [if_pos hb]; subst hv; rfl) | (rw [if_pos hb]; subst hv; first | exact (b2i_t h17).symm | exact (b2i_f h17).symm | exact (if_pos h17).symm | exact (if_neg h17).symm | omega) | (rw [if_pos hb]; unfold ofG; (repeat' split) <;> omega)), rfl, rfl, rfl, rfl, rfl⟩
        · refine z_tin C (tgt := 145) 7 dX7_ofGauge_27 hv (by decide) (by decide) (by decide) rfl (by decide) ?_
          refine z_iload_n C dX7_ofGauge_145 rfl ?_
          refine z_if_eq C (tgt := 159) dX7_ofGauge_146 (by decide) (by first | omega | exact b2i_r) (fun h146 => ?_) (fun h146 => ?_)
          · refine z_bipush C dX7_ofGauge_159 (by decide) ?_
            exact z_iret2 C hQ rfl dX7_ofGauge_161 ⟨zr (by first | rw [if_neg g4] | (rw [if_pos hb]; subst hv; rfl) | (rw [if_pos hb]; subst hv; first | exact (b2i_t h17).symm | exact (b2i_f h17).symm | exact (if_pos h17).symm | exact (if_neg h17).symm | omega) | (rw [if_pos hb]; unfold ofG; (repeat' split) <;> omega)), rfl, rfl, rfl, rfl, rfl⟩
          · refine z_aload_n C dX7_ofGauge_149 rfl ?_
            refine z_iload_n C dX7_ofGauge_150 rfl ?_
            refine z_bipush C dX7_ofGauge_151 (by decide) ?_
            refine z_callVd C (ci := 7) rfl (by decide) (by first | assumption | exact hM.1) (mX7_part l G hM (by omega) (by omega)) (cwV 2 C.2.2.2.2.1 gv7_64 rfl rfl rfl hd_X7_part ⟨Nat.le_of_ble_eq_true rfl, Nat.le_of_ble_eq_true rfl⟩) rfl rfl (Nat.le_of_ble_eq_true rfl) dX7_ofGauge_153 ⟨Nat.zero_le _, Nat.zero_le _⟩ ?_
            rw [show (20 + 36 * (n9 : Int) + 6).toNat = 26 + 36 * n9 by omega]
            refine z_goto C (tgt := 161) dX7_ofGauge_156 (by decide) ?_
            exact z_iret2 C hQ rfl dX7_ofGauge_161 ⟨zr (by first | rw [if_neg g4] | (rw [if_pos hb]; subst hv; rfl) | (rw [if_pos hb]; subst hv; first | exact (b2i_t h17).symm | exact (b2i_f h17).symm | exact (if_pos h17).symm | exact (if_neg h17).symm | omega) | (rw [if_pos hb]; unfold ofG; (repeat' split) <;> omega)), rfl, rfl, rfl, rfl, rfl⟩
    · refine z_iconst C dX7_ofGauge_20 ?_
      refine z_goto C (tgt := 25) dX7_ofGauge_21 (by decide) ?_
      refine z_istore_n C dX7_ofGauge_25 (by decide) rfl ?_
      refine z_iload_n C dX7_ofGauge_26 rfl ?_
      by_cases hs27 : wh < 0 ∨ 7 < wh
      · refine z_tout C (tgt := 162) dX7_ofGauge_27 (by omega) hs27 (by decide) ?_
        refine z_bipush C dX7_ofGauge_162 (by decide) ?_
        exact z_iret2 C hQ rfl dX7_ofGauge_164 ⟨zr (by first | rw [if_neg g4] | (rw [if_pos hb]; subst hv; rfl) | (rw [if_pos hb]; subst hv; first | exact (b2i_t h17).symm | exact (b2i_f h17).symm | exact (if_pos h17).symm | exact (if_neg h17).symm | omega) | (rw [if_pos hb]; unfold ofG; (repeat' split) <;> omega)), rfl, rfl, rfl, rfl, rfl⟩
      · rcases (show wh = 0 ∨ wh = 1 ∨ wh = 2 ∨ wh = 3 ∨ wh = 4 ∨ wh = 5 ∨ wh = 6 ∨ wh = 7 by omega) with hv | hv | hv | hv | hv | hv | hv | hv
        · refine z_tin C (tgt := 72) 0 dX7_ofGauge_27 hv (by decide) (by decide) (by decide) rfl (by decide) ?_
          refine z_aload_n C dX7_ofGauge_72 rfl ?_
          refine z_iload_n C dX7_ofGauge_73 rfl ?_
          refine z_iconst C dX7_ofGauge_74 ?_
          refine z_callVd C (ci := 7) rfl (by decide) (by first | assumption | exact hM.1) (mX7_part l G hM (by omega) (by omega)) (cwV 2 C.2.2.2.2.1 gv7_64 rfl rfl rfl hd_X7_part ⟨Nat.le_of_ble_eq_true rfl, Nat.le_of_ble_eq_true rfl⟩) rfl rfl (Nat.le_of_ble_eq_true rfl) dX7_ofGauge_75 ⟨Nat.zero_le _, Nat.zero_le _⟩ ?_
          rw [show (20 + 36 * (n9 : Int) + 0).toNat = 20 + 36 * n9 by omega]
          refine z_bipush C dX7_ofGauge_78 (by decide) ?_
          refine z_iadd C dX7_ofGauge_80 ?_
          exact z_iret2 C hQ rfl dX7_ofGauge_81 ⟨zr (by first | rw [if_neg g4] | (rw [if_pos hb]; subst hv; rfl) | (rw [if_pos hb]; subst hv; first | exact (b2i_t h17).symm | exact (b2i_f h17).symm | exact (if_pos h17).symm | exact (if_neg h17).symm | omega) | (rw [if_pos hb]; unfold ofG; (repeat' split) <;> omega)), rfl, rfl, rfl, rfl, rfl⟩
        · refine z_tin C (tgt := 82) 1 dX7_ofGauge_27 hv (by decide) (by decide) (by decide) rfl (by decide) ?_
          refine z_aload_n C dX7_ofGauge_82 rfl ?_
          refine z_iload_n C dX7_ofGauge_83 rfl ?_
          refine z_iconst C dX7_ofGauge_84 ?_
          refine z_callVd C (ci := 7) rfl (by decide) (by first | assumption | exact hM.1) (mX7_part l G hM (by omega) (by omega)) (cwV 2 C.2.2.2.2.1 gv7_64 rfl rfl rfl hd_X7_part ⟨Nat.le_of_ble_eq_true rfl, Nat.le_of_ble_eq_true rfl⟩) rfl rfl (Nat.le_of_ble_eq_true rfl) dX7_ofGauge_85 ⟨Nat.zero_le _, Nat.zero_le _⟩ ?_
          rw [show (20 + 36 * (n9 : Int) + 1).toNat = 21 + 36 * n9 by omega]
          exact z_iret2 C hQ rfl dX7_ofGauge_88 ⟨zr (by first | rw [if_neg g4] | (rw [if_pos hb]; subst hv; rfl) | (rw [if_pos hb]; subst hv; first | exact (b2i_t h17).symm | exact (b2i_f h17).symm | exact (if_pos h17).symm | exact (if_neg h17).symm | omega) | (rw [if_pos hb]; unfold ofG; (repeat' split) <;> omega)), rfl, rfl, rfl, rfl, rfl⟩
        · refine z_tin C (tgt := 89) 2 dX7_ofGauge_27 hv (by decide) (by decide) (by decide) rfl (by decide) ?_
          refine z_aload_n C dX7_ofGauge_89 rfl ?_
          refine z_iload_n C dX7_ofGauge_90 rfl ?_
          refine z_iconst C dX7_ofGauge_91 ?_
          refine z_callVd C (ci := 7) rfl (by decide) (by first | assumption | exact hM.1) (mX7_part l G hM (by omega) (by omega)) (cwV 2 C.2.2.2.2.1 gv7_64 rfl rfl rfl hd_X7_part ⟨Nat.le_of_ble_eq_true rfl, Nat.le_of_ble_eq_true rfl⟩) rfl rfl (Nat.le_of_ble_eq_true rfl) dX7_ofGauge_92 ⟨Nat.zero_le _, Nat.zero_le _⟩ ?_
          rw [show (20 + 36 * (n9 : Int) + 2).toNat = 22 + 36 * n9 by omega]
          exact z_iret2 C hQ rfl dX7_ofGauge_95 ⟨zr (by first | rw [if_neg g4] | (rw [if_pos hb]; subst hv; rfl) | (rw [if_pos hb]; subst hv; first | exact (b2i_t h17).symm | exact (b2i_f h17).symm | exact (if_pos h17).symm | exact (if_neg h17).symm | omega) | (rw [if_pos hb]; unfold ofG; (repeat' split) <;> omega)), rfl, rfl, rfl, rfl, rfl⟩
        · refine z_tin C (tgt := 96) 3 dX7_ofGauge_27 hv (by decide) (by decide) (by decide) rfl (by decide) ?_
          refine z_aload_n C dX7_ofGauge_96 rfl ?_
          refine z_iload_n C dX7_ofGauge_97 rfl ?_
          refine z_iconst C dX7_ofGauge_98 ?_
          refine z_callVd C (ci := 7) rfl (by decide) (by first | assumption | exact hM.1) (mX7_part l G hM (by omega) (by omega)) (cwV 2 C.2.2.2.2.1 gv7_64 rfl rfl rfl hd_X7_part ⟨Nat.le_of_ble_eq_true rfl, Nat.le_of_ble_eq_true rfl⟩) rfl rfl (Nat.le_of_ble_eq_true rfl) dX7_ofGauge_99 ⟨Nat.zero_le _, Nat.zero_le _⟩ ?_
          rw [show (20 + 36 * (n9 : Int) + 3).toNat = 23 + 36 * n9 by omega]
          exact z_iret2 C hQ rfl dX7_ofGauge_102 ⟨zr (by first | rw [if_neg g4] | (rw [if_pos hb]; subst hv; rfl) | (rw [if_pos hb]; subst hv; first | exact (b2i_t h17).symm | exact (b2i_f h17).symm | exact (if_pos h17).symm | exact (if_neg h17).symm | omega) | (rw [if_pos hb]; unfold ofG; (repeat' split) <;> omega)), rfl, rfl, rfl, rfl, rfl⟩
        · refine z_tin C (tgt := 103) 4 dX7_ofGauge_27 hv (by decide) (by decide) (by decide) rfl (by decide) ?_
          refine z_aload_n C dX7_ofGauge_103 rfl ?_
          refine z_iload_n C dX7_ofGauge_104 rfl ?_
          refine z_iconst C dX7_ofGauge_105 ?_
          refine z_callVd C (ci := 7) rfl (by decide) (by first | assumption | exact hM.1) (mX7_part l G hM (by omega) (by omega)) (cwV 2 C.2.2.2.2.1 gv7_64 rfl rfl rfl hd_X7_part ⟨Nat.le_of_ble_eq_true rfl, Nat.le_of_ble_eq_true rfl⟩) rfl rfl (Nat.le_of_ble_eq_true rfl) dX7_ofGauge_106 ⟨Nat.zero_le _, Nat.zero_le _⟩ ?_
          rw [show (20 + 36 * (n9 : Int) + 3).toNat = 23 + 36 * n9 by omega]
          refine z_aload_n C dX7_ofGauge_109 rfl ?_
          refine z_iload_n C dX7_ofGauge_110 rfl ?_
          refine z_iconst C dX7_ofGauge_111 ?_
          refine z_callVd C (ci := 7) rfl (by decide) (by first | assumption | exact hM.1) (mX7_part l G hM (by omega) (by omega)) (cwV 2 C.2.2.2.2.1 gv7_64 rfl rfl rfl hd_X7_part ⟨Nat.le_of_ble_eq_true rfl, Nat.le_of_ble_eq_true rfl⟩) rfl rfl (Nat.le_of_ble_eq_true rfl) dX7_ofGauge_112 ⟨Nat.zero_le _, Nat.zero_le _⟩ ?_
          rw [show (20 + 36 * (n9 : Int) + 2).toNat = 22 + 36 * n9 by omega]
          refine z_callSd C (mX7_reads l G c4 c3) (va_cwS 2 C.2.2.2.2.1 gv7_94 rfl rfl rfl hs_X7_reads ⟨Nat.le_of_ble_eq_true rfl, Nat.le_of_ble_eq_true rfl⟩) rfl rfl (Nat.le_of_ble_eq_true rfl) dX7_ofGauge_115 ⟨Nat.zero_le _, Nat.zero_le _⟩ ?_
          exact z_iret2 C hQ rfl dX7_ofGauge_118 ⟨zr (by first | rw [if_neg g4] | (rw [if_pos hb]; subst hv; rfl) | (rw [if_pos hb]; subst hv; first | exact (b2i_t h17).symm | exact (b2i_f h17).symm | exact (if_pos h17).symm | exact (if_neg h17).symm | omega) | (rw [if_pos hb]; unfold ofG; (repeat' split) <;> omega)), rfl, rfl, rfl, rfl, rfl⟩
        · refine z_tin C (tgt := 119) 5 dX7_ofGauge_27 hv (by decide) (by decide) (by decide) rfl (by decide) ?_
          refine z_iload_n C dX7_ofGauge_119 rfl ?_
          refine z_if_eq C (tgt := 127) dX7_ofGauge_120 (by decide) (by first | omega | exact b2i_r) (fun h120 => ?_) (fun h120 => ?_)
          · refine z_iconst C dX7_ofGauge_127 ?_
            exact z_iret2 C hQ rfl dX7_ofGauge_128 ⟨zr (by first | rw [if_neg g4] | (rw [if_pos hb]; subst hv; rfl) | (rw [if_pos hb]; subst hv; first | exact (b2i_t h17).symm | exact (b2i_f h17).symm | exact (if_pos h17).symm | exact (if_neg h17).symm | omega) | (rw [if_pos hb]; unfold ofG; (repeat' split) <;> omega)), rfl, rfl, rfl, rfl, rfl⟩
          · refine z_iconst C dX7_ofGauge_123 ?_
            refine z_goto C (tgt := 128) dX7_ofGauge_124 (by decide) ?_
            exact z_iret2 C hQ rfl dX7_ofGauge_128 ⟨zr (by first | rw [if_neg g4] | (rw [if_pos hb]; subst hv; rfl) | (rw [if_pos hb]; subst hv; first | exact (b2i_t h17).symm | exact (b2i_f h17).symm | exact (if_pos h17).symm | exact (if_neg h17).symm | omega) | (rw [if_pos hb]; unfold ofG; (repeat' split) <;> omega)), rfl, rfl, rfl, rfl, rfl⟩
        · refine z_tin C (tgt := 129) 6 dX7_ofGauge_27 hv (by decide) (by decide) (by decide) rfl (by decide) ?_
          refine z_iload_n C dX7_ofGauge_129 rfl ?_
          refine z_if_eq C (tgt := 142) dX7_ofGauge_130 (by decide) (by first | omega | exact b2i_r) (fun h130 => ?_) (fun h130 => ?_)
          · refine z_bipush C dX7_ofGauge_142 (by decide) ?_
            exact z_iret2 C hQ rfl dX7_ofGauge_144 ⟨zr (by first | rw [if_neg g4] | (rw [if_pos hb]; subst hv; rfl) | (rw [if_pos hb]; subst hv; first | exact (b2i_t h17).symm | exact (b2i_f h17).symm | exact (if_pos h17).symm | exact (if_neg h17).symm | omega) | (rw [if_pos hb]; unfold ofG; (repeat' split) <;> omega)), rfl, rfl, rfl, rfl, rfl⟩
          · refine z_aload_n C dX7_ofGauge_133 rfl ?_
            refine z_iload_n C dX7_ofGauge_134 rfl ?_
            refine z_iconst C dX7_ofGauge_135 ?_
            refine z_callVd C (ci := 7) rfl (by decide) (by first | assumption | exact hM.1) (mX7_part l G hM (by omega) (by omega)) (cwV 2 C.2.2.2.2.1 gv7_64 rfl rfl rfl hd_X7_part ⟨Nat.le_of_ble_eq_true rfl, Nat.le_of_ble_eq_true rfl⟩) rfl rfl (Nat.le_of_ble_eq_true rfl) dX7_ofGauge_136 ⟨Nat.zero_le _, Nat.zero_le _⟩ ?_
            rw [show (20 + 36 * (n9 : Int) + 5).toNat = 25 + 36 * n9 by omega]
            refine z_goto C (tgt := 144) dX7_ofGauge_139 (by decide) ?_
            exact z_iret2 C hQ rfl dX7_ofGauge_144 ⟨zr (by first | rw [if_neg g4] | (rw [if_pos hb]; subst hv; rfl) | (rw [if_pos hb]; subst hv; first | exact (b2i_t h17).symm | exact (b2i_f h17).symm | exact (if_pos h17).symm | exact (if_neg h17).symm | omega) | (rw [if_pos hb]; unfold ofG; (repeat' split) <;> omega)), rfl, rfl, rfl, rfl, rfl⟩
        · refine z_tin C (tgt := 145) 7 dX7_ofGauge_27 hv (by decide) (by decide) (by decide) rfl (by decide) ?_
          refine z_iload_n C dX7_ofGauge_145 rfl ?_
          refine z_if_eq C (tgt := 159) dX7_ofGauge_146 (by decide) (by first | omega | exact b2i_r) (fun h146 => ?_) (fun h146 => ?_)
          · refine z_bipush C dX7_ofGauge_159 (by decide) ?_
            exact z_iret2 C hQ rfl dX7_ofGauge_161 ⟨zr (by first | rw [if_neg g4] | (rw [if_pos hb]; subst hv; rfl) | (rw [if_pos hb]; subst hv; first | exact (b2i_t h17).symm | exact (b2i_f h17).symm | exact (if_pos h17).symm | exact (if_neg h17).symm | omega) | (rw [if_pos hb]; unfold ofG; (repeat' split) <;> omega)), rfl, rfl, rfl, rfl, rfl⟩
          · refine z_aload_n C dX7_ofGauge_149 rfl ?_
            refine z_iload_n C dX7_ofGauge_150 rfl ?_
            refine z_bipush C dX7_ofGauge_151 (by decide) ?_
            refine z_callVd C (ci := 7) rfl (by decide) (by first | assumption | exact hM.1) (mX7_part l G hM (by omega) (by omega)) (cwV 2 C.2.2.2.2.1 gv7_64 rfl rfl rfl hd_X7_part ⟨Nat.le_of_ble_eq_true rfl, Nat.le_of_ble_eq_true rfl⟩) rfl rfl (Nat.le_of_ble_eq_true rfl) dX7_ofGauge_153 ⟨Nat.zero_le _, Nat.zero_le _⟩ ?_
            rw [show (20 + 36 * (n9 : Int) + 6).toNat = 26 + 36 * n9 by omega]
            refine z_goto C (tgt := 161) dX7_ofGauge_156 (by decide) ?_
            exact z_iret2 C hQ rfl dX7_ofGauge_161 ⟨zr (by first | rw [if_neg g4] | (rw [if_pos hb]; subst hv; rfl) | (rw [if_pos hb]; subst hv; first | exact (b2i_t h17).symm | exact (b2i_f h17).symm | exact (if_pos h17).symm | exact (if_neg h17).symm | omega) | (rw [if_pos hb]; unfold ofG; (repeat' split) <;> omega)), rfl, rfl, rfl, rfl, rfl⟩
  · have g4 := b2i_0.mp h5
    refine z_iconst C dX7_ofGauge_8 ?_
    exact z_iret2 C hQ rfl dX7_ofGauge_9 ⟨zr (by first | rw [if_neg g4] | (rw [if_pos hb]; subst hv; rfl) | (rw [if_pos hb]; subst hv; first | exact (b2i_t h17).symm | exact (b2i_f h17).symm | exact (if_pos h17).symm | exact (if_neg h17).symm | omega) | (rw [if_pos hb]; unfold ofG; (repeat' split) <;> omega)), rfl, rfl, rfl, rfl, rfl⟩

set_option maxHeartbeats 4000000 in
set_option maxRecDepth 100000 in
theorem mX7_reading (l : Launch) (G : GG) {z : Nat} {K N : Nat → Nat} {I : MI} {R : MR} {o : Nat} (hM : ShM G z K N R o) (hO : Ok (I (o + 1))) {gg pl : Int} (hgg : -2147483648 ≤ gg ∧ gg < 2147483648) (hpl : -2147483648 ≤ pl ∧ pl < 2147483648) : Cod l G yX7_reading (Cond.code yX7_reading cX7_reading 3 (some .int) :: wsL_law) ⟨2, 0, 0, 43⟩ [.ref o, .int (zI gg), .int (zI pl)] z K N I R (some (.int (zI (if 0 ≤ gg ∧ gg ≤ I (o + 1) 5 - 1 then (if ¬ I (o + 1) (24 + 36 * gg.toNat) = 0 ∧ (0 ≤ pl ∧ pl ≤ 2 * I (o + 1) 3 - 1) then I (o + 1) (28 + 36 * gg.toNat + pl.toNat) else -1) else -1)))) I R := by
  refine Con.of (own := RX7) (cc := cX7_reading) (maxL := 3) (ret := (some .int)) (by decide +kernel) rfl rfl (Nat.le_of_ble_eq_true rfl) (by decide) rfl ?_
  intro p e9 s mt args below meth c Q hin hQ C
  obtain ⟨ho, ⟨r0, r1, r3, r4, r5, r7, r8⟩, ⟨k1, k2, k3, k4, k5, k6, k7⟩, n1, n2, n3, n4, n5, n6, n7⟩ := id hM
  have h5 := hO.2.2.2.2.2.1
  have h3 := hO.2.2.2.1
  refine z_aload_n C dX7_reading_0 rfl ?_
  refine z_iload_n C dX7_reading_1 rfl ?_
  refine z_callVd C (ci := 7) rfl (by decide) (by first | assumption | exact hM.1) (mX7_isGauge l G hM hO hgg) (cwV 1 C.2.2.2.2.1 gv7_143 rfl rfl rfl hd_X7_isGauge ⟨Nat.le_of_ble_eq_true rfl, Nat.le_of_ble_eq_true rfl⟩) rfl rfl (Nat.le_of_ble_eq_true rfl) dX7_reading_2 ⟨Nat.zero_le _, Nat.zero_le _⟩ ?_
  refine z_if_eq C (tgt := 35) dX7_reading_5 (by decide) (by first | omega | exact b2i_r) (fun h5 => ?_) (fun h5 => ?_)
  · refine z_iconst C dX7_reading_35 ?_
    exact z_iret2 C hQ rfl dX7_reading_36 ⟨zr (by first | (rw [if_pos hb, if_pos ⟨h14, hb2⟩]; rfl) | (rw [if_pos hb, if_neg (fun z => b2i_0.mp h32 z.2)]) | (rw [if_pos hb, if_neg (fun z => z.1 h14)]) | rw [if_neg (b2i_0.mp h5)]), rfl, rfl, rfl, rfl, rfl⟩
  · have hb := b2i_1.mp h5
    obtain ⟨n9, rfl⟩ := Int.eq_ofNat_of_zero_le (show 0 ≤ gg by omega)
    obtain ⟨c1, c2, c3, c4, c5⟩ := hO.2.2.2.2.2.2.2 n9 (by omega)
    refine z_aload_n C dX7_reading_8 rfl ?_
    refine z_iload_n C dX7_reading_9 rfl ?_
    refine z_iconst C dX7_reading_10 ?_
    refine z_callVd C (ci := 7) rfl (by decide) (by first | assumption | exact hM.1) (mX7_part l G hM (by omega) (by omega)) (cwV 2 C.2.2.2.2.1 gv7_64 rfl rfl rfl hd_X7_part ⟨Nat.le_of_ble_eq_true rfl, Nat.le_of_ble_eq_true rfl⟩) rfl rfl (Nat.le_of_ble_eq_true rfl) dX7_reading_11 ⟨Nat.zero_le _, Nat.zero_le _⟩ ?_
    rw [show (20 + 36 * (n9 : Int) + 4).toNat = 24 + 36 * n9 by omega]
    refine z_if_eq C (tgt := 35) dX7_reading_14 (by decide) (by first | omega | exact b2i_r) (fun h14 => ?_) (fun h14 => ?_)
    · refine z_iconst C dX7_reading_35 ?_
      exact z_iret2 C hQ rfl dX7_reading_36 ⟨zr (by first | (rw [if_pos hb, if_pos ⟨h14, hb2⟩]; rfl) | (rw [if_pos hb, if_neg (fun z => b2i_0.mp h32 z.2)]) | (rw [if_pos hb, if_neg (fun z => z.1 h14)]) | rw [if_neg (b2i_0.mp h5)]), rfl, rfl, rfl, rfl, rfl⟩
    · refine z_iload_n C dX7_reading_17 rfl ?_
      refine z_iconst C dX7_reading_18 ?_
      refine z_iconst C dX7_reading_19 ?_
      refine z_aload_n C dX7_reading_20 rfl ?_
      refine z_gR C (ci := 7) (k := 0) rfl (by decide) rfl (by decide) wl_7 wq_4_3 (by decide) dX7_reading_21 (by assumption) (by assumption) ?_
      refine z_iconst C dX7_reading_24 ?_
      refine z_ialdk C (3) dX7_reading_25 (by assumption) (by first | rfl | omega) (by omega) (by omega) ?_
      refine z_imul C dX7_reading_26 ?_
      refine z_iconst C dX7_reading_27 ?_
      refine z_isub C dX7_reading_28 ?_
      refine z_callSd C (mX7_within l G (by omega) (by omega) (by omega)) (va_cwS 3 C.2.2.2.2.1 gv7_39 rfl rfl rfl hs_X7_within ⟨Nat.le_of_ble_eq_true rfl, Nat.le_of_ble_eq_true rfl⟩) rfl rfl (Nat.le_of_ble_eq_true rfl) dX7_reading_29 ⟨Nat.zero_le _, Nat.zero_le _⟩ ?_
      refine z_if_ne C (tgt := 37) dX7_reading_32 (by decide) (by first | omega | exact b2i_r) (fun h32 => ?_) (fun h32 => ?_)
      · have hb2 := b2i_1.mp h32
        obtain ⟨n8, rfl⟩ := Int.eq_ofNat_of_zero_le hb2.1
        refine z_aload_n C dX7_reading_37 rfl ?_
        refine z_iload_n C dX7_reading_38 rfl ?_
        refine z_bipush C dX7_reading_39 (by decide) ?_
        refine z_iload_n C dX7_reading_41 rfl ?_
        refine z_iadd C dX7_reading_42 ?_
        refine z_callVd C (ci := 7) rfl (by decide) (by first | assumption | exact hM.1) (mX7_part l G hM (by omega) (by omega)) (cwV 2 C.2.2.2.2.1 gv7_64 rfl rfl rfl hd_X7_part ⟨Nat.le_of_ble_eq_true rfl, Nat.le_of_ble_eq_true rfl⟩) rfl rfl (Nat.le_of_ble_eq_true rfl) dX7_reading_43 ⟨Nat.zero_le _, Nat.zero_le _⟩ ?_
        rw [show (20 + 36 * (n9 : Int) + (8 + (n8 : Int))).toNat = 28 + 36 * n9 + n8 by omega]
        exact z_iret2 C hQ rfl dX7_reading_46 ⟨zr (by first | (rw [if_pos hb, if_pos ⟨h14, hb2⟩]; rfl) | (rw [if_pos hb, if_neg (fun z => b2i_0.mp h32 z.2)]) | (rw [if_pos hb, if_neg (fun z => z.1 h14)]) | rw [if_neg (b2i_0.mp h5)]), rfl, rfl, rfl, rfl, rfl⟩
      · refine z_iconst C dX7_reading_35 ?_
        exact z_iret2 C hQ rfl dX7_reading_36 ⟨zr (by first | (rw [if_pos hb, if_pos ⟨h14, hb2⟩]; rfl) | (rw [if_pos hb, if_neg (fun z => b2i_0.mp h32 z.2)]) | (rw [if_pos hb, if_neg (fun z => z.1 h14)]) | rw [if_neg (b2i_0.mp h5)]), rfl, rfl, rfl, rfl, rfl⟩

set_option maxHeartbeats 4000000 in
set_option maxRecDepth 100000 in
theorem mX7_pressure (l : Launch) (G : GG) {z : Nat} {K N : Nat → Nat} {I : MI} {R : MR} {o : Nat} (hM : ShM G z K N R o) (hO : Ok (I (o + 1))) {rg : Int} (hrg : -2147483648 ≤ rg ∧ rg < 2147483648) : Cod l G yX7_pressure (Cond.code yX7_pressure cX7_pressure 2 (some .int) :: wsL_law) ⟨4, 0, 0, 86⟩ [.ref o, .int (zI rg)] z K N I R (some (.int (zI (if rg < 0 then -2 else prsA (I (o + 1)) rg)))) I R := by
  refine Con.of (own := RX7) (cc := cX7_pressure) (maxL := 2) (ret := (some .int)) (by decide +kernel) rfl rfl (Nat.le_of_ble_eq_true rfl) (by decide) rfl ?_
  intro p e9 s mt args below meth c Q hin hQ C
  refine z_iload_n C dX7_pressure_0 rfl ?_
  refine z_if_ge C (tgt := 9) dX7_pressure_1 (by decide) (by first | omega | exact b2i_r) (fun h1 => ?_) (fun h1 => ?_)
  · refine z_aload_n C dX7_pressure_9 rfl ?_
    refine z_iload_n C dX7_pressure_10 rfl ?_
    refine z_callVd C (ci := 7) rfl (by decide) (by first | assumption | exact hM.1) (mX7_pressureOf l G hM hO (by omega)) (cwV 1 C.2.2.2.2.1 gv7_67 rfl rfl rfl hd_X7_pressureOf ⟨Nat.le_of_ble_eq_true rfl, Nat.le_of_ble_eq_true rfl⟩) rfl rfl (Nat.le_of_ble_eq_true rfl) dX7_pressure_11 ⟨Nat.zero_le _, Nat.zero_le _⟩ ?_
    exact z_iret2 C hQ rfl dX7_pressure_14 ⟨zr (by first | rw [if_pos (by omega)] | rw [if_neg (by omega)]), rfl, rfl, rfl, rfl, rfl⟩
  · refine z_bipush C dX7_pressure_4 (by decide) ?_
    refine z_goto C (tgt := 14) dX7_pressure_6 (by decide) ?_
    exact z_iret2 C hQ rfl dX7_pressure_14 ⟨zr (by first | rw [if_pos (by omega)] | rw [if_neg (by omega)]), rfl, rfl, rfl, rfl, rfl⟩

set_option maxHeartbeats 4000000 in
set_option maxRecDepth 100000 in
theorem mX7_airCosts (l : Launch) (G : GG) {z : Nat} {K N : Nat → Nat} {I : MI} {R : MR} {o : Nat} (hM : ShM G z K N R o) (hO : Ok (I (o + 1))) {ar : Int} (har : -2147483648 ≤ ar ∧ ar < 2147483648) : Cod l G yX7_airCosts (Cond.code yX7_airCosts cX7_airCosts 3 (some .int) :: wsL_law) ⟨3, 0, 0, 65⟩ [.ref o, .int (zI ar)] z K N I R (some (.int (zI (if 0 ≤ ar ∧ ar ≤ 9 then prs (massA (I (o + 1)) (I (o + 1) 4)) ar (I (o + 1) 1) - prs (massA (I (o + 1)) (I (o + 1) 4)) (I (o + 1) 0) (I (o + 1) 1) + 10000 else -2)))) I R := by
  refine Con.of (own := RX7) (cc := cX7_airCosts) (maxL := 3) (ret := (some .int)) (by decide +kernel) rfl rfl (Nat.le_of_ble_eq_true rfl) (by decide) rfl ?_
  intro p e9 s mt args below meth c Q hin hQ C
  obtain ⟨ho, ⟨r0, r1, r3, r4, r5, r7, r8⟩, ⟨k1, k2, k3, k4, k5, k6, k7⟩, n1, n2, n3, n4, n5, n6, n7⟩ := id hM
  have h4 := Ok4 hO
  refine z_iload_n C dX7_airCosts_0 rfl ?_
  refine z_iconst C dX7_airCosts_1 ?_
  refine z_bipush C dX7_airCosts_2 (by decide) ?_
  refine z_callSd C (mX7_within l G (by omega) (by omega) (by omega)) (va_cwS 3 C.2.2.2.2.1 gv7_39 rfl rfl rfl hs_X7_within ⟨Nat.le_of_ble_eq_true rfl, Nat.le_of_ble_eq_true rfl⟩) rfl rfl (Nat.le_of_ble_eq_true rfl) dX7_airCosts_4 ⟨Nat.zero_le _, Nat.zero_le _⟩ ?_
  refine z_if_ne C (tgt := 13) dX7_airCosts_7 (by decide) (by first | omega | exact b2i_r) (fun h7 => ?_) (fun h7 => ?_)
  · have hb := b2i_1.mp h7
    refine z_aload_n C dX7_airCosts_13 rfl ?_
    refine z_aload_n C dX7_airCosts_14 rfl ?_
    refine z_gR C (ci := 7) (k := 0) rfl (by decide) rfl (by decide) wl_7 wq_4_3 (by decide) dX7_airCosts_15 (by assumption) (by assumption) ?_
    refine z_iconst C dX7_airCosts_18 ?_
    refine z_ialdk C (4) dX7_airCosts_19 (by assumption) (by first | rfl | omega) (by omega) (by omega) ?_
    refine z_callVd C (ci := 7) rfl (by decide) (by first | assumption | exact hM.1) (mX7_massOf l G hM hO (by omega)) (cwV 1 C.2.2.2.2.1 gv7_51 rfl rfl rfl hd_X7_massOf ⟨Nat.le_of_ble_eq_true rfl, Nat.le_of_ble_eq_true rfl⟩) rfl rfl (Nat.le_of_ble_eq_true rfl) dX7_airCosts_20 ⟨Nat.zero_le _, Nat.zero_le _⟩ ?_
    refine z_istore_n C dX7_airCosts_23 (by decide) rfl ?_
    refine z_aload_n C dX7_airCosts_24 rfl ?_
    refine z_iload_n C dX7_airCosts_25 rfl ?_
    refine z_iload_n C dX7_airCosts_26 rfl ?_
    refine z_callVd C (ci := 7) rfl (by decide) (by first | assumption | exact hM.1) (mX7_pressureBy l G hM hO (massA_rng hO _) (by first | exact hb | exact hO.1)) (cwV 2 C.2.2.2.2.1 gv7_55 rfl rfl rfl hd_X7_pressureBy ⟨Nat.le_of_ble_eq_true rfl, Nat.le_of_ble_eq_true rfl⟩) rfl rfl (Nat.le_of_ble_eq_true rfl) dX7_airCosts_27 ⟨Nat.zero_le _, Nat.zero_le _⟩ ?_
    refine z_aload_n C dX7_airCosts_30 rfl ?_
    refine z_iload_n C dX7_airCosts_31 rfl ?_
    refine z_aload_n C dX7_airCosts_32 rfl ?_
    refine z_gR C (ci := 7) (k := 0) rfl (by decide) rfl (by decide) wl_7 wq_4_3 (by decide) dX7_airCosts_33 (by assumption) (by assumption) ?_
    refine z_iconst C dX7_airCosts_36 ?_
    refine z_ialdk C (0) dX7_airCosts_37 (by assumption) (by first | rfl | omega) (by omega) (by omega) ?_
    refine z_callVd C (ci := 7) rfl (by decide) (by first | assumption | exact hM.1) (mX7_pressureBy l G hM hO (massA_rng hO _) (by first | exact hb | exact hO.1)) (cwV 2 C.2.2.2.2.1 gv7_55 rfl rfl rfl hd_X7_pressureBy ⟨Nat.le_of_ble_eq_true rfl, Nat.le_of_ble_eq_true rfl⟩) rfl rfl (Nat.le_of_ble_eq_true rfl) dX7_airCosts_38 ⟨Nat.zero_le _, Nat.zero_le _⟩ ?_
    refine z_isub C dX7_airCosts_41 ?_
    refine z_sipush C dX7_airCosts_42 (by decide) ?_
    refine z_iadd C dX7_airCosts_45 ?_
    exact z_iret2 C hQ rfl dX7_airCosts_46 ⟨zr (by first | rw [if_pos hb] | rw [if_neg (b2i_0.mp h7)]), rfl, rfl, rfl, rfl, rfl⟩
  · refine z_bipush C dX7_airCosts_10 (by decide) ?_
    exact z_iret2 C hQ rfl dX7_airCosts_12 ⟨zr (by first | rw [if_pos hb] | rw [if_neg (b2i_0.mp h7)]), rfl, rfl, rfl, rfl, rfl⟩

set_option maxHeartbeats 4000000 in
set_option maxRecDepth 100000 in
theorem mX7_undo (l : Launch) (G : GG) {z : Nat} {K N : Nat → Nat} {I : MI} {R : MR} {o : Nat} (hM : ShM G z K N R o) (hR : 0 ≤ I o 2 ∧ I o 2 ≤ 6) : Cod l G yX7_undo (Cond.code yX7_undo cX7_undo 1 (some .int) :: wsL_law) ⟨1, 0, 0, 24⟩ [.ref o] z K N I R (some (.int (zI (if I o 2 = 0 then -5 else I o 2 - 1)))) (if I o 2 = 0 then I else va_up (u2 I o 2 (I o 2 - 1)) (o + 1) (movF (I (o + 2)) (I (o + 1)) ((I o 2 - 1) * 236).toNat 0)) R := by
  refine Con.of (own := RX7) (cc := cX7_undo) (maxL := 1) (ret := (some .int)) (by decide +kernel) rfl rfl (Nat.le_of_ble_eq_true rfl) (by decide) rfl ?_
  intro p e9 s mt args below meth c Q hin hQ C
  obtain ⟨ho, ⟨r0, r1, r3, r4, r5, r7, r8⟩, ⟨k1, k2, k3, k4, k5, k6, k7⟩, n1, n2, n3, n4, n5, n6, n7⟩ := id hM
  have q1 : o + 1 ≠ o := by omega
  have q2 : o + 2 ≠ o := by omega
  have q12 : o + 1 ≠ o + 2 := by omega
  have q02 : o ≠ o + 2 := by omega
  have q01 : o ≠ o + 1 := by omega
  refine z_aload_n C dX7_undo_0 rfl ?_
  refine z_gI C (ci := 7) (k := 2) rfl (by decide) rfl (by decide) wl_7 wq_8_6 rfl dX7_undo_1 (by assumption) ?_
  refine z_if_ne C (tgt := 10) dX7_undo_4 (by decide) (by first | omega | exact b2i_r) (fun h4 => ?_) (fun h4 => ?_)
  · refine z_aload_n C dX7_undo_10 rfl ?_
    refine z_dup C dX7_undo_11 rfl ?_
    refine z_gI C (ci := 7) (k := 2) rfl (by decide) rfl (by decide) wl_7 wq_8_6 rfl dX7_undo_12 (by assumption) ?_
    refine z_iconst C dX7_undo_15 ?_
    refine z_isub C dX7_undo_16 ?_
    refine z_pI C (ci := 7) (k := 2) rfl (by decide) rfl (by decide) tyX7_ok nmX7 wl_7 wq_8_6 rfl (Or.inl rfl) dX7_undo_17 (by assumption) ?_
    refine z_aload_n C dX7_undo_20 rfl ?_
    refine z_gR C (ci := 7) (k := 1) rfl (by decide) rfl (by decide) wl_7 wq_4_4 (by decide) dX7_undo_21 (by assumption) (by assumption) ?_
    refine z_aload_n C dX7_undo_24 rfl ?_
    refine z_gI C (ci := 7) (k := 2) rfl (by decide) rfl (by decide) wl_7 wq_8_6 rfl dX7_undo_25 (by assumption) ?_
    rw [u2_s]
    refine z_sipush C dX7_undo_28 (by decide) ?_
    refine z_imul C dX7_undo_31 ?_
    obtain ⟨t9, ht9, ht8⟩ : ∃ t9 : Nat, (I o 2 - 1) * 236 = (t9 : Int) ∧ t9 + 236 ≤ 1416 := ⟨((I o 2 - 1) * 236).toNat, by omega, by omega⟩
    rw [ht9]
    refine z_aload_n C dX7_undo_32 rfl ?_
    refine z_gR C (ci := 7) (k := 0) rfl (by decide) rfl (by decide) wl_7 wq_4_3 (by decide) dX7_undo_33 (by assumption) (by assumption) ?_
    refine z_iconst C dX7_undo_36 ?_
    refine z_callSd C (mX7_moves l G (f := t9) (t := 0) k2 k1 (Ne.symm q12) (by omega) (by omega) (by omega) (by omega)) (va_cwS 4 C.2.2.2.2.1 gv7_35 rfl rfl rfl hs_X7_moves ⟨Nat.le_of_ble_eq_true rfl, Nat.le_of_ble_eq_true rfl⟩) rfl rfl (Nat.le_of_ble_eq_true rfl) dX7_undo_37 ⟨Nat.zero_le _, Nat.zero_le _⟩ ?_
    rw [u2_row q1, u2_row q2]
    refine z_aload_n C dX7_undo_40 rfl ?_
    refine z_gI C (ci := 7) (k := 2) rfl (by decide) rfl (by decide) wl_7 wq_8_6 rfl dX7_undo_41 (by assumption) ?_
    rw [va_up_n q01, u2_s]
    exact z_iret2 C hQ rfl dX7_undo_44 ⟨zr (by first | rw [if_pos h4] | rw [if_neg h4]), rfl, rfl, rfl, by first | rw [if_pos h4] | rw [if_neg h4, show ((I o 2 - 1) * 236).toNat = t9 by omega], rfl⟩
  · refine z_bipush C dX7_undo_7 (by decide) ?_
    exact z_iret2 C hQ rfl dX7_undo_9 ⟨zr (by first | rw [if_pos h4] | rw [if_neg h4]), rfl, rfl, rfl, by first | rw [if_pos h4] | rw [if_neg h4, show ((I o 2 - 1) * 236).toNat = t9 by omega], rfl⟩

set_option maxHeartbeats 4000000 in
set_option maxRecDepth 100000 in
theorem mX7_save (l : Launch) (G : GG) {z : Nat} {K N : Nat → Nat} {I : MI} {R : MR} {o : Nat} (hM : ShM G z K N R o) {sl : Int} (hsl : -2147483648 ≤ sl ∧ sl < 2147483648) : Cod l G yX7_save (Cond.code yX7_save cX7_save 2 (some .int) :: wsL_law) ⟨1, 0, 0, 24⟩ [.ref o, .int (zI sl)] z K N I R (some (.int (zI (if 0 ≤ sl ∧ sl ≤ 1 then I (o + 1) 3 else -2)))) (if 0 ≤ sl ∧ sl ≤ 1 then u2 (va_up I (o + 3) (movF (I (o + 1)) (I (o + 3)) 0 (236 * sl.toNat))) (o + 4) sl.toNat 1 else I) R := by
  refine Con.of (own := RX7) (cc := cX7_save) (maxL := 2) (ret := (some .int)) (by decide +kernel) rfl rfl (Nat.le_of_ble_eq_true rfl) (by decide) rfl ?_
  intro p e9 s mt args below meth c Q hin hQ C
  obtain ⟨ho, ⟨r0, r1, r3, r4, r5, r7, r8⟩, ⟨k1, k2, k3, k4, k5, k6, k7⟩, n1, n2, n3, n4, n5, n6, n7⟩ := id hM
  refine z_iload_n C dX7_save_0 rfl ?_
  refine z_iconst C dX7_save_1 ?_
  refine z_iconst C dX7_save_2 ?_
  refine z_callSd C (mX7_within l G (by omega) (by omega) (by omega)) (va_cwS 3 C.2.2.2.2.1 gv7_39 rfl rfl rfl hs_X7_within ⟨Nat.le_of_ble_eq_true rfl, Nat.le_of_ble_eq_true rfl⟩) rfl rfl (Nat.le_of_ble_eq_true rfl) dX7_save_3 ⟨Nat.zero_le _, Nat.zero_le _⟩ ?_
  refine z_if_ne C (tgt := 12) dX7_save_6 (by decide) (by first | omega | exact b2i_r) (fun h6 => ?_) (fun h6 => ?_)
  · have hb := b2i_1.mp h6
    obtain ⟨n9, rfl⟩ := Int.eq_ofNat_of_zero_le (show 0 ≤ sl by omega)
    refine z_aload_n C dX7_save_12 rfl ?_
    refine z_gR C (ci := 7) (k := 0) rfl (by decide) rfl (by decide) wl_7 wq_4_3 (by decide) dX7_save_13 (by assumption) (by assumption) ?_
    refine z_iconst C dX7_save_16 ?_
    refine z_aload_n C dX7_save_17 rfl ?_
    refine z_gR C (ci := 7) (k := 3) rfl (by decide) rfl (by decide) wl_7 wq_4_5 (by decide) dX7_save_18 (by assumption) (by assumption) ?_
    refine z_sipush C dX7_save_21 (by decide) ?_
    refine z_iload_n C dX7_save_24 rfl ?_
    refine z_imul C dX7_save_25 ?_
    rw [show (236 * (n9 : Int)) = ((236 * n9 : Nat) : Int) by omega]
    refine z_callSd C (mX7_moves l G (f := 0) (t := 236 * n9) k1 k3 (by omega) (by omega) (by omega) (by omega) (by omega)) (va_cwS 4 C.2.2.2.2.1 gv7_35 rfl rfl rfl hs_X7_moves ⟨Nat.le_of_ble_eq_true rfl, Nat.le_of_ble_eq_true rfl⟩) rfl rfl (Nat.le_of_ble_eq_true rfl) dX7_save_26 ⟨Nat.zero_le _, Nat.zero_le _⟩ ?_
    refine z_aload_n C dX7_save_29 rfl ?_
    refine z_gR C (ci := 7) (k := 4) rfl (by decide) rfl (by decide) wl_7 wq_4_6 (by decide) dX7_save_30 (by assumption) (by assumption) ?_
    refine z_iload_n C dX7_save_33 rfl ?_
    refine z_iconst C dX7_save_34 ?_
    refine z_iastk C (n9) dX7_save_35 (by assumption) (by first | rfl | omega) (by omega) (by omega) ?_
    refine z_aload_n C dX7_save_36 rfl ?_
    refine z_gR C (ci := 7) (k := 0) rfl (by decide) rfl (by decide) wl_7 wq_4_3 (by decide) dX7_save_37 (by assumption) (by assumption) ?_
    refine z_iconst C dX7_save_40 ?_
    refine z_ialdk C (3) dX7_save_41 (by assumption) (by first | rfl | omega) (by omega) (by omega) ?_
    rw [u2_row (by omega), va_up_n (by omega)]
    exact z_iret2 C hQ rfl dX7_save_42 ⟨zr (by first | rw [if_pos hb] | rw [if_neg (b2i_0.mp h6)]), rfl, rfl, rfl, by first | (rw [if_pos hb]; rfl) | rw [if_neg (b2i_0.mp h6)], rfl⟩
  · refine z_bipush C dX7_save_9 (by decide) ?_
    exact z_iret2 C hQ rfl dX7_save_11 ⟨zr (by first | rw [if_pos hb] | rw [if_neg (b2i_0.mp h6)]), rfl, rfl, rfl, by first | (rw [if_pos hb]; rfl) | rw [if_neg (b2i_0.mp h6)], rfl⟩

set_option maxHeartbeats 4000000 in
set_option maxRecDepth 100000 in
theorem mX7_restore (l : Launch) (G : GG) {z : Nat} {K N : Nat → Nat} {I : MI} {R : MR} {o : Nat} (hM : ShM G z K N R o) (hR : 0 ≤ I o 2 ∧ I o 2 ≤ 6) (hS : ∀ k : Nat, k < 2 → I (o + 4) k = 0 ∨ I (o + 4) k = 1) {sl : Int} (hsl : -2147483648 ≤ sl ∧ sl < 2147483648) : Cod l G yX7_restore (Cond.code yX7_restore cX7_restore 2 (some .int) :: wsL_law) ⟨2, 0, 0, 45⟩ [.ref o, .int (zI sl)] z K N I R (some (.int (zI (if 0 ≤ sl ∧ sl ≤ 1 then (if I (o + 4) sl.toNat = 0 then -5 else movF (I (o + 3)) (I (o + 1)) (236 * sl.toNat) 0 3) else -2)))) (if (0 ≤ sl ∧ sl ≤ 1) ∧ ¬ I (o + 4) sl.toNat = 0 then va_up (recM I o) (o + 1) (movF (I (o + 3)) (I (o + 1)) (236 * sl.toNat) 0) else I) R := by
  refine Con.of (own := RX7) (cc := cX7_restore) (maxL := 2) (ret := (some .int)) (by decide +kernel) rfl rfl (Nat.le_of_ble_eq_true rfl) (by decide) rfl ?_
  intro p e9 s mt args below meth c Q hin hQ C
  obtain ⟨ho, ⟨r0, r1, r3, r4, r5, r7, r8⟩, ⟨k1, k2, k3, k4, k5, k6, k7⟩, n1, n2, n3, n4, n5, n6, n7⟩ := id hM
  refine z_iload_n C dX7_restore_0 rfl ?_
  refine z_iconst C dX7_restore_1 ?_
  refine z_iconst C dX7_restore_2 ?_
  refine z_callSd C (mX7_within l G (by omega) (by omega) (by omega)) (va_cwS 3 C.2.2.2.2.1 gv7_39 rfl rfl rfl hs_X7_within ⟨Nat.le_of_ble_eq_true rfl, Nat.le_of_ble_eq_true rfl⟩) rfl rfl (Nat.le_of_ble_eq_true rfl) dX7_restore_3 ⟨Nat.zero_le _, Nat.zero_le _⟩ ?_
  refine z_if_ne C (tgt := 12) dX7_restore_6 (by decide) (by first | omega | exact b2i_r) (fun h6 => ?_) (fun h6 => ?_)
  · have hb := b2i_1.mp h6
    obtain ⟨n9, rfl⟩ := Int.eq_ofNat_of_zero_le (show 0 ≤ sl by omega)
    have hS9 := hS n9 (by omega)
    refine z_aload_n C dX7_restore_12 rfl ?_
    refine z_gR C (ci := 7) (k := 4) rfl (by decide) rfl (by decide) wl_7 wq_4_6 (by decide) dX7_restore_13 (by assumption) (by assumption) ?_
    refine z_iload_n C dX7_restore_16 rfl ?_
    refine z_ialdk C (n9) dX7_restore_17 (by assumption) (by first | rfl | omega) (by omega) (by omega) ?_
    refine z_if_ne C (tgt := 24) dX7_restore_18 (by decide) (by first | omega | exact b2i_r) (fun h18 => ?_) (fun h18 => ?_)
    · refine z_aload_n C dX7_restore_24 rfl ?_
      refine z_callVd C (ci := 7) rfl (by decide) (by first | assumption | exact hM.1) (mX7_record l G hM hR) (cwV 0 C.2.2.2.2.1 gv7_107 rfl rfl rfl hd_X7_record ⟨Nat.le_of_ble_eq_true rfl, Nat.le_of_ble_eq_true rfl⟩) rfl rfl (Nat.le_of_ble_eq_true rfl) dX7_restore_25 ⟨Nat.zero_le _, Nat.zero_le _⟩ ?_
      refine z_aload_n C dX7_restore_28 rfl ?_
      refine z_gR C (ci := 7) (k := 3) rfl (by decide) rfl (by decide) wl_7 wq_4_5 (by decide) dX7_restore_29 (by assumption) (by assumption) ?_
      refine z_sipush C dX7_restore_32 (by decide) ?_
      refine z_iload_n C dX7_restore_35 rfl ?_
      refine z_imul C dX7_restore_36 ?_
      rw [show (236 * (n9 : Int)) = ((236 * n9 : Nat) : Int) by omega]
      refine z_aload_n C dX7_restore_37 rfl ?_
      refine z_gR C (ci := 7) (k := 0) rfl (by decide) rfl (by decide) wl_7 wq_4_3 (by decide) dX7_restore_38 (by assumption) (by assumption) ?_
      refine z_iconst C dX7_restore_41 ?_
      refine z_callSd C (mX7_moves l G (f := 236 * n9) (t := 0) k3 k1 (by omega) (by omega) (by omega) (by omega) (by omega)) (va_cwS 4 C.2.2.2.2.1 gv7_35 rfl rfl rfl hs_X7_moves ⟨Nat.le_of_ble_eq_true rfl, Nat.le_of_ble_eq_true rfl⟩) rfl rfl (Nat.le_of_ble_eq_true rfl) dX7_restore_42 ⟨Nat.zero_le _, Nat.zero_le _⟩ ?_
      rw [recM_k I o 3 (by omega) (by omega), recM_1]
      refine z_aload_n C dX7_restore_45 rfl ?_
      refine z_gR C (ci := 7) (k := 0) rfl (by decide) rfl (by decide) wl_7 wq_4_3 (by decide) dX7_restore_46 (by assumption) (by assumption) ?_
      refine z_iconst C dX7_restore_49 ?_
      refine z_ialdk C (3) dX7_restore_50 (by assumption) (by first | rfl | omega) (by omega) (by omega) ?_
      rw [va_up_s]
      exact z_iret2 C hQ rfl dX7_restore_51 ⟨zr (by first | exact (if_neg (b2i_0.mp h6)).symm | exact ((if_pos hb).trans (if_neg h18)).symm | exact ((if_pos hb).trans (if_pos h18)).symm), rfl, rfl, rfl, by first | exact (if_neg (fun z => b2i_0.mp h6 z.1)).symm | exact (if_neg (fun z => z.2 h18)).symm | exact (if_pos ⟨hb, h18⟩).symm, rfl⟩
    · refine z_bipush C dX7_restore_21 (by decide) ?_
      exact z_iret2 C hQ rfl dX7_restore_23 ⟨zr (by first | exact (if_neg (b2i_0.mp h6)).symm | exact ((if_pos hb).trans (if_neg h18)).symm | exact ((if_pos hb).trans (if_pos h18)).symm), rfl, rfl, rfl, by first | exact (if_neg (fun z => b2i_0.mp h6 z.1)).symm | exact (if_neg (fun z => z.2 h18)).symm | exact (if_pos ⟨hb, h18⟩).symm, rfl⟩
  · refine z_bipush C dX7_restore_9 (by decide) ?_
    exact z_iret2 C hQ rfl dX7_restore_11 ⟨zr (by first | exact (if_neg (b2i_0.mp h6)).symm | exact ((if_pos hb).trans (if_neg h18)).symm | exact ((if_pos hb).trans (if_pos h18)).symm), rfl, rfl, rfl, by first | exact (if_neg (fun z => b2i_0.mp h6 z.1)).symm | exact (if_neg (fun z => z.2 h18)).symm | exact (if_pos ⟨hb, h18⟩).symm, rfl⟩

set_option maxHeartbeats 4000000 in
set_option maxRecDepth 100000 in
theorem mX7_wipe (l : Launch) (G : GG) {z : Nat} {K N : Nat → Nat} {I : MI} {R : MR} {o : Nat} (hM : ShM G z K N R o) : Cod l G yX7_wipe (Cond.code yX7_wipe cX7_wipe 2 (some .int) :: wsL_law) ⟨0, 0, 0, 0⟩ [.ref o] z K N I R (some (.int (zI (I o 6)))) (u2 I o 6 0) R := by
  refine Con.of (own := RX7) (cc := cX7_wipe) (maxL := 2) (ret := (some .int)) (by decide +kernel) rfl rfl (Nat.le_of_ble_eq_true rfl) (by decide) rfl ?_
  intro p e9 s mt args below meth c Q hin hQ C
  obtain ⟨ho, ⟨r0, r1, r3, r4, r5, r7, r8⟩, ⟨k1, k2, k3, k4, k5, k6, k7⟩, n1, n2, n3, n4, n5, n6, n7⟩ := id hM
  refine z_aload_n C dX7_wipe_0 rfl ?_
  refine z_gI C (ci := 7) (k := 6) rfl (by decide) rfl (by decide) wl_7 wq_22_5 rfl dX7_wipe_1 (by assumption) ?_
  refine z_istore_n C dX7_wipe_4 (by decide) rfl ?_
  refine z_aload_n C dX7_wipe_5 rfl ?_
  refine z_iconst C dX7_wipe_6 ?_
  refine z_pI C (ci := 7) (k := 6) rfl (by decide) rfl (by decide) tyX7_ok nmX7 wl_7 wq_22_5 rfl (Or.inl rfl) dX7_wipe_7 (by assumption) ?_
  refine z_iload_n C dX7_wipe_10 rfl ?_
  exact z_iret2 C hQ rfl dX7_wipe_11 ⟨rfl, rfl, rfl, rfl, rfl, rfl⟩
end
section
/-! the order of the rings, a test -/
def insQ (F : Nat → Int) (a : Nat → Nat) (r : Nat) : Nat → Nat
  | 0 => 0
  | q + 1 => if F (a q) ≤ F r then q + 1 else insQ F a r q
def ordC (F : Nat → Int) : Nat → Nat → Nat
  | 0 => fun _ => 0
  | n + 1 => fun j => if j < insQ F (ordC F n) n n then ordC F n j else if j = insQ F (ordC F n) n n then n else ordC F n (j - 1)
theorem insQ_le (F : Nat → Int) (a : Nat → Nat) (r : Nat) : ∀ q, insQ F a r q ≤ q
  | 0 => Nat.le_refl 0
  | q + 1 => by
    unfold insQ
    split
    · omega
    · have := insQ_le F a r q; omega
theorem insQ_hi (F : Nat → Int) (a : Nat → Nat) (r : Nat) : ∀ q j, insQ F a r q ≤ j → j < q → F r < F (a j)
  | 0, j, _, h => by omega
  | q + 1, j, h1, h2 => by
    unfold insQ at h1
    split at h1
    · omega
    · by_cases e : j = q
      · subst e; omega
      · exact insQ_hi F a r q j h1 (by omega)
theorem insQ_lo (F : Nat → Int) (a : Nat → Nat) (r : Nat) : ∀ q, 0 < insQ F a r q → F (a (insQ F a r q - 1)) ≤ F r
  | 0, h => by simp [insQ] at h
  | q + 1, h => by
    unfold insQ at h ⊢
    split
    · simpa using ‹_›
    · rename_i hn
      rw [if_neg hn] at h
      exact insQ_lo F a r q h
theorem ordC_lt (F : Nat → Int) : ∀ n j, j < n → ordC F n j < n
  | 0, j, h => by omega
  | n + 1, j, h => by
    have hq := insQ_le F (ordC F n) n n
    show (if j < insQ F (ordC F n) n n then ordC F n j else if j = insQ F (ordC F n) n n then n else ordC F n (j - 1)) < n + 1
    split
    · have := ordC_lt F n j (by omega); omega
    · split
      · omega
      · have := ordC_lt F n (j - 1) (by omega); omega
/-- before, in the order of a test -/
def lexb (F : Nat → Int) (i j : Nat) : Prop := F i < F j ∨ (F i = F j ∧ i < j)
theorem lexb_tr {F : Nat → Int} {i j k : Nat} (h1 : lexb F i j) (h2 : lexb F j k) : lexb F i k := by unfold lexb at *; omega
theorem ordC_sort (F : Nat → Int) : ∀ n i j, i < j → j < n → lexb F (ordC F n i) (ordC F n j)
  | 0, i, j, _, h => by omega
  | n + 1, i, j, hij, hj => by
    have hq := insQ_le F (ordC F n) n n
    have ih := ordC_sort F n
    have hi := insQ_hi F (ordC F n) n n
    have hlo := insQ_lo F (ordC F n) n n
    show lexb F (if i < insQ F (ordC F n) n n then ordC F n i else if i = insQ F (ordC F n) n n then n else ordC F n (i - 1)) (if j < insQ F (ordC F n) n n then ordC F n j else if j = insQ F (ordC F n) n n then n else ordC F n (j - 1))
    generalize insQ F (ordC F n) n n = q at hq hi hlo ⊢
    have lowq : ∀ k, k < q → lexb F (ordC F n k) n := by
      intro k hk
      have h1 := hlo (by omega)
      have h2 := ordC_lt F n k (by omega)
      by_cases e : k = q - 1
      · subst e
        unfold lexb
        rcases Int.lt_or_eq_of_le h1 with h | h
        · exact Or.inl h
        · exact Or.inr ⟨h, h2⟩
      · have h3 := ih k (q - 1) (by omega) (by omega)
        unfold lexb at h3 ⊢
        rcases h3 with h3 | h3
        · exact Or.inl (by omega)
        · rcases Int.lt_or_eq_of_le h1 with h | h
          · exact Or.inl (by omega)
          · exact Or.inr ⟨by omega, h2⟩
    by_cases a1 : i < q
    · rw [if_pos a1]
      by_cases b1 : j < q
      · rw [if_pos b1]; exact ih i j hij (by omega)
      · rw [if_neg b1]
        by_cases b2 : j = q
        · rw [if_pos b2]; exact lowq i a1
        · rw [if_neg b2]
          exact ih i (j - 1) (by omega) (by omega)
    · rw [if_neg a1, if_neg (show ¬ j < q by omega), if_neg (show ¬ j = q by omega)]
      by_cases a2 : i = q
      · rw [if_pos a2]
        exact Or.inl (hi (j - 1) (by omega) (by omega))
      · rw [if_neg a2]
        exact ih (i - 1) (j - 1) (by omega) (by omega)
theorem ordC_inj (F : Nat → Int) {n i j : Nat} (hi : i < n) (hj : j < n) (e : ordC F n i = ordC F n j) : i = j := by
  rcases Nat.lt_trichotomy i j with h | h | h
  · have := ordC_sort F n i j h hj
    rw [e] at this
    unfold lexb at this; omega
  · exact h
  · have := ordC_sort F n j i h hi
    rw [e] at this
    unfold lexb at this; omega
def rowO (F : Nat → Int) (n : Nat) (old : Nat → Int) : Nat → Int := fun j => if j < n then (ordC F n j : Int) else old j
def rowB (F : Nat → Int) (r q : Nat) (old : Nat → Int) : Nat → Int := fun j => if j ≤ q then (if j < r then (ordC F r j : Int) else old j) else if j ≤ r then (ordC F r (j - 1) : Int) else old j
theorem rowB_0 (F : Nat → Int) (r : Nat) (old : Nat → Int) : rowB F r r old = rowO F r old := by
  funext j
  unfold rowB rowO
  by_cases h : j ≤ r
  · rw [if_pos h]
  · rw [if_neg h, if_neg h, if_neg (by omega)]
theorem rowB_at {F : Nat → Int} {r q : Nat} {old : Nat → Int} (h : 0 < q) (h2 : q ≤ r) : rowB F r q old (q - 1) = (ordC F r (q - 1) : Int) := by
  unfold rowB
  rw [if_pos (by omega), if_pos (by omega)]
theorem rowB_s {F : Nat → Int} {r q : Nat} {old : Nat → Int} (h : 0 < q) (h2 : q ≤ r) : st1 (rowB F r q old) q (ordC F r (q - 1) : Int) = rowB F r (q - 1) old := by
  funext j
  unfold st1 rowB
  by_cases e : j = q
  · rw [if_pos e, if_neg (by omega), if_pos (by omega), e]
  · rw [if_neg e]
    by_cases h3 : j ≤ q
    · rw [if_pos h3, if_pos (show j ≤ q - 1 by omega)]
    · rw [if_neg h3, if_neg (show ¬ j ≤ q - 1 by omega)]
theorem rowB_e {F : Nat → Int} {r q : Nat} {old : Nat → Int} (h2 : q ≤ r) (e : insQ F (ordC F r) r r = q) : st1 (rowB F r q old) q (r : Int) = rowO F (r + 1) old := by
  funext j
  unfold st1 rowB rowO
  have eo : ∀ j, ordC F (r + 1) j = if j < q then ordC F r j else if j = q then r else ordC F r (j - 1) := by
    intro j
    show (if j < insQ F (ordC F r) r r then ordC F r j else if j = insQ F (ordC F r) r r then r else ordC F r (j - 1)) = _
    rw [e]
  by_cases h1 : j = q
  · rw [if_pos h1, if_pos (by omega), eo, if_neg (by omega), if_pos h1]
  · rw [if_neg h1]
    by_cases h3 : j ≤ q
    · rw [if_pos h3, if_pos (by omega), if_pos (by omega), eo, if_pos (by omega)]
    · rw [if_neg h3]
      by_cases h4 : j ≤ r
      · rw [if_pos h4, if_pos (by omega), eo, if_neg (by omega), if_neg h1]
      · rw [if_neg h4, if_neg (by omega)]
def cumS (F : Nat → Int) (n : Nat) : Nat → Int
  | 0 => 0
  | k + 1 => cumS F n k + F (ordC F n k)
/-- how many rings are stacked behind step k of a test, which ring moves in it -/
def cntK (n k : Nat) : Nat := if k ≤ n then k else 2 * n - k
def rngK (F : Nat → Int) (n k : Nat) : Nat := ordC F n (if k < n then k else 2 * n - 1 - k)
def tprN (F : Nat → Int) (n : Nat) (air area : Int) (k : Nat) : Int := prs (100 + cumS F n (cntK n (k + 1))) air area
def tpr (f : Nat → Int) : Nat → Int := tprN (fun r => f (6 + r)) (f 3).toNat (f 0) (f 1)
def hnd (pr : Nat → Int) (e pl : Int) : Nat → Int
  | 0 => 0
  | k + 1 => goes (hnd pr e pl k) (pr k) e pl
def rdg (pr : Nat → Int) (e pl sp : Int) (k : Nat) : Int := rnd (hnd pr e pl (k + 1)) sp * sp
def wrg (pr : Nat → Int) (e pl sp : Int) (k : Nat) : Int := absz (rdg pr e pl sp k - pr k)
def grt (w : Nat → Int) : Nat → Int
  | 0 => -1
  | k + 1 => if grt w k < w k then w k else grt w k
def wst (w : Nat → Int) : Nat → Int
  | 0 => 0
  | k + 1 => if grt w k < w k then (k : Int) else wst w k
def ssK (F : Nat → Int) (n : Nat) : Nat → Int
  | 0 => 0
  | k + 1 => flipb (ssK F n k) (rngK F n k)
theorem flip_bit {a : Int} (ha : 0 ≤ a) (r i : Nat) : (flipb a r / 2 ^ i % 2 = 1) ↔ (if i = r then ¬ a / 2 ^ i % 2 = 1 else a / 2 ^ i % 2 = 1) := by
  obtain ⟨k, rfl⟩ := Int.eq_ofNat_of_zero_le ha
  rw [← nat_flip, natbit, natbit, Nat.testBit_xor, Nat.testBit_two_pow]
  by_cases h : i = r
  · subst h; simp
  · have h2 : ¬ r = i := fun e => h e.symm
    simp [h, h2]
theorem massS_flip {F : Nat → Int} {a : Int} (ha : 0 ≤ a) (r : Nat) : ∀ n, massS F (flipb a r) n = massS F a n + if r < n then (if a / 2 ^ r % 2 = 1 then - F r else F r) else 0
  | 0 => by simp [massS]
  | n + 1 => by
    have ih := massS_flip (F := F) ha r n
    have hb := flip_bit ha r n
    unfold massS
    rw [ih]
    by_cases h : n = r
    · subst h
      rw [if_neg (by omega), if_pos (by omega)]
      rw [if_pos rfl] at hb
      by_cases h1 : a / 2 ^ n % 2 = 1
      · have h2 : flipb a n / 2 ^ n % 2 = 0 := by
          have : ¬ flipb a n / 2 ^ n % 2 = 1 := fun z => (hb.mp z) h1
          omega
        rw [if_pos h1, h1, h2]; omega
      · have h2 := hb.mpr h1
        have h3 : a / 2 ^ n % 2 = 0 := by omega
        rw [if_neg h1, h2, h3]; omega
    · rw [if_neg h] at hb
      have h2 : flipb a r / 2 ^ n % 2 = a / 2 ^ n % 2 := by
        by_cases h1 : a / 2 ^ n % 2 = 1
        · rw [hb.mpr h1, h1]
        · have : ¬ flipb a r / 2 ^ n % 2 = 1 := fun z => h1 (hb.mp z)
          omega
      rw [h2]
      by_cases h4 : r < n
      · rw [if_pos h4, if_pos (show r < n + 1 by omega), Int.add_right_comm]
      · rw [if_neg h4, if_neg (show ¬ r < n + 1 by omega), Int.add_zero, Int.add_zero]
theorem massS_0 (F : Nat → Int) : ∀ n, massS F 0 n = 100
  | 0 => rfl
  | n + 1 => by
    unfold massS
    rw [massS_0 F n]
    simp
theorem rngK_lt (F : Nat → Int) {n k : Nat} (h : k < 2 * n) : rngK F n k < n := by
  unfold rngK
  split
  · exact ordC_lt F n _ (by omega)
  · exact ordC_lt F n _ (by omega)
theorem ssK_all (F : Nat → Int) (n : Nat) : ∀ k, k ≤ 2 * n → (0 ≤ ssK F n k ∧ ssK F n k < 2 ^ n) ∧ massS F (ssK F n k) n = 100 + cumS F n (cntK n k) ∧ ∀ j, j < n → (ssK F n k / 2 ^ (ordC F n j) % 2 = 1 ↔ j < cntK n k)
  | 0, _ => by
    refine ⟨⟨by simp [ssK], by simpa [ssK] using pow_pos2 n⟩, by simp [ssK, massS_0, cntK, cumS], fun j hj => ?_⟩
    simp [ssK, cntK]
  | k + 1, hk => by
    obtain ⟨h1, h2, h3⟩ := ssK_all F n k (by omega)
    have hr := rngK_lt F (n := n) (k := k) (by omega)
    have hf := flip_rng h1 hr
    have hm := massS_flip (F := F) h1.1 (rngK F n k) n
    show (0 ≤ flipb (ssK F n k) (rngK F n k) ∧ flipb (ssK F n k) (rngK F n k) < 2 ^ n) ∧ massS F (flipb (ssK F n k) (rngK F n k)) n = _ ∧ ∀ j, j < n → (flipb (ssK F n k) (rngK F n k) / 2 ^ (ordC F n j) % 2 = 1 ↔ _)
    rw [hm, h2, if_pos hr]
    by_cases hn : k < n
    · have er : rngK F n k = ordC F n k := by unfold rngK; rw [if_pos hn]
      have ec : cntK n k = k := if_pos (by omega)
      have ec2 : cntK n (k + 1) = k + 1 := if_pos (by omega)
      rw [er] at hf ⊢
      have hb : ¬ ssK F n k / 2 ^ (ordC F n k) % 2 = 1 := fun z => by have := (h3 k hn).mp z; omega
      refine ⟨hf, ?_, fun j hj => ?_⟩
      · rw [if_neg hb, ec, ec2]
        show _ = 100 + (cumS F n k + F (ordC F n k))
        omega
      · rw [flip_bit h1.1, ec2]
        by_cases hjk : j = k
        · subst hjk
          rw [if_pos rfl]
          exact ⟨fun _ => by omega, fun _ => hb⟩
        · rw [if_neg (fun e => hjk (ordC_inj F hj hn e)), h3 j hj, ec]
          omega
    · have er : rngK F n k = ordC F n (2 * n - 1 - k) := by unfold rngK; rw [if_neg hn]
      have ec : cntK n k = 2 * n - k := by unfold cntK; split <;> omega
      have ec2 : cntK n (k + 1) = 2 * n - 1 - k := by unfold cntK; split <;> omega
      rw [er] at hf ⊢
      have hb : ssK F n k / 2 ^ (ordC F n (2 * n - 1 - k)) % 2 = 1 := (h3 _ (by omega)).mpr (by omega)
      refine ⟨hf, ?_, fun j hj => ?_⟩
      · rw [if_pos hb, ec, ec2]
        have e : 2 * n - k = (2 * n - 1 - k) + 1 := by omega
        rw [e]
        show _ = 100 + cumS F n (2 * n - 1 - k)
        rw [show cumS F n (2 * n - 1 - k + 1) = cumS F n (2 * n - 1 - k) + F (ordC F n (2 * n - 1 - k)) from rfl]
        omega
      · rw [flip_bit h1.1, ec2]
        by_cases hjk : j = 2 * n - 1 - k
        · subst hjk
          rw [if_pos rfl]
          exact ⟨fun z => absurd hb z, fun z => by omega⟩
        · rw [if_neg (fun e => hjk (ordC_inj F hj (by omega) e)), h3 j hj, ec]
          omega
theorem tpr_eq {f : Nat → Int} (k : Nat) (hk : k < 2 * (f 3).toNat) : prsA f (ssK (fun r => f (6 + r)) (f 3).toNat (k + 1)) = tpr f k := by
  have h := (ssK_all (fun r => f (6 + r)) (f 3).toNat (k + 1) (by omega)).2.1
  unfold prsA massA tpr tprN
  rw [h]
theorem tpr_rng {f : Nat → Int} (h : Ok f) {k : Nat} (hk : k < 2 * (f 3).toNat) : 0 ≤ tpr f k ∧ tpr f k ≤ 14008600 := by
  rw [← tpr_eq k hk]; exact prsA_rng h _
theorem hnd_rng {pr : Nat → Int} {e pl : Int} {n : Nat} (hp : ∀ k, k < n → 0 ≤ pr k ∧ pr k ≤ 14008600) (he : -99 ≤ e ∧ e ≤ 99) (hl : 0 ≤ pl ∧ pl ≤ 99) : ∀ k, k ≤ n → 0 ≤ hnd pr e pl k ∧ hnd pr e pl k ≤ 16000000
  | 0, _ => by simp [hnd]
  | k + 1, h => by
    have ih := hnd_rng hp he hl k (by omega)
    exact goes_rng (hp k (by omega)) he hl ih
theorem rdg_rng {h b : Int} (hh : 0 ≤ h ∧ h ≤ 16000000) (hb : 1 ≤ b ∧ b ≤ 99) : 0 ≤ rnd h b * b ∧ rnd h b * b ≤ 16000198 := by
  obtain ⟨r1, r2, r3⟩ := rnd_rng (b := b) hh.1 (by omega)
  have h1 : h / b * b ≤ h := Int.ediv_mul_le h (by omega)
  have h2 : rnd h b * b ≤ (h / b + 1) * b := Int.mul_le_mul_of_nonneg_right r2 (by omega)
  rw [Int.add_mul, Int.one_mul] at h2
  exact ⟨Int.mul_nonneg r1 (by omega), by omega⟩
theorem grt_rng {w : Nat → Int} {n : Nat} {m : Int} (hw : ∀ k, k < n → 0 ≤ w k ∧ w k ≤ m) (hm : 0 ≤ m) : ∀ k, k ≤ n → -1 ≤ grt w k ∧ grt w k ≤ m
  | 0, _ => by simp [grt]; omega
  | k + 1, h => by
    have ih := grt_rng hw hm k (by omega)
    have := hw k (by omega)
    unfold grt
    split <;> omega
end
section
set_option maxHeartbeats 4000000 in
set_option maxRecDepth 100000 in
theorem mX7_findOrder (l : Launch) (G : GG) {z : Nat} {K N : Nat → Nat} {I : MI} {R : MR} {o : Nat} (hM : ShM G z K N R o) (hO : Ok (I (o + 1))) : Cod l G yX7_findOrder (Cond.code yX7_findOrder cX7_findOrder 3 none :: wsL_law) ⟨0, 0, 0, 0⟩ [.ref o] z K N I R none (va_up I (o + 6) (rowO (fun j => I (o + 1) (6 + j)) (I (o + 1) 3).toNat (I (o + 6)))) R := by
  refine Con.of (own := RX7) (cc := cX7_findOrder) (maxL := 3) (ret := none) (by decide +kernel) rfl rfl (Nat.le_of_ble_eq_true rfl) (by decide) rfl ?_
  intro p e9 s mt args below meth c Q hin hQ C
  obtain ⟨ho, ⟨r0, r1, r3, r4, r5, r7, r8⟩, ⟨k1, k2, k3, k4, k5, k6, k7⟩, n1, n2, n3, n4, n5, n6, n7⟩ := id hM
  have h3 := hO.2.2.2.1
  have hin9 : ∀ (n : Nat) (q r : Nat), (r : Int) < I (o + 1) 3 → q ≤ r → insQ (fun j => I (o + 1) (6 + j)) (ordC (fun j => I (o + 1) (6 + j)) r) r r = insQ (fun j => I (o + 1) (6 + j)) (ordC (fun j => I (o + 1) (6 + j)) r) r q → q < n → (Zq p l e9 ⟨0, 0, 0, 0⟩ s mt args below meth c G 3 Q 0 0 z K N (va_up I (o + 6) (rowO (fun j => I (o + 1) (6 + j)) (r + 1) (I (o + 6)))) R 2 [(0, .ref o), (1, .int (zI ((r + 1 : Nat) : Int)))] []) → Zq p l e9 ⟨0, 0, 0, 0⟩ s mt args below meth c G 3 Q 0 0 z K N (va_up I (o + 6) (rowB (fun j => I (o + 1) (6 + j)) r q (I (o + 6)))) R 14 [(0, .ref o), (1, .int (zI (r : Int))), (2, .int (zI (q : Int)))] [] := by
    intro n
    induction n with
    | zero => intro q r h1 h2 h3 h4 hout; exact absurd h4 (by omega)
    | succ n ih =>
      intro q r h1 h2 h3 h4 hout
      have c1 := hO.2.2.2.2.2.2.1 r h1
      refine z_iload_n C dX7_findOrder_14 rfl ?_
      refine z_if_le C (tgt := 66) dX7_findOrder_15 (by decide) (by first | omega | exact b2i_r) (fun h15 => ?_) (fun h15 => ?_)
      · have hq : insQ (fun j => I (o + 1) (6 + j)) (ordC (fun j => I (o + 1) (6 + j)) r) r r = q := by
          rcases Nat.eq_zero_or_pos q with hq0 | hq0
          · subst hq0; exact h3
          · first
            | (exfalso; omega)
            | (obtain ⟨q9, rfl⟩ : ∃ q9, q = q9 + 1 := ⟨q - 1, (by omega)⟩
               rw [h3]
               have h44 : (fun j => I (o + 1) (6 + j)) (ordC (fun j => I (o + 1) (6 + j)) r q9) ≤ (fun j => I (o + 1) (6 + j)) r := h43
               exact if_pos h44)
        refine z_aload_n C dX7_findOrder_66 rfl ?_
        refine z_gR C (ci := 7) (k := 7) rfl (by decide) rfl (by decide) wl_7 wq_4_8 (by decide) dX7_findOrder_67 (by assumption) (by assumption) ?_
        refine z_iload_n C dX7_findOrder_70 rfl ?_
        refine z_iload_n C dX7_findOrder_71 rfl ?_
        refine z_iastk C (q) dX7_findOrder_72 (by assumption) (by first | rfl | omega) (by omega) (by omega) ?_
        rw [u2_vst, rowB_e h2 hq]
        refine z_iinc C dX7_findOrder_73 rfl (by decide) rfl ?_
        refine z_goto C (tgt := 2) dX7_findOrder_76 (by decide) ?_
        exact z_sub [0, 1] rfl rfl hout
      · refine z_aload_n C dX7_findOrder_18 rfl ?_
        refine z_gR C (ci := 7) (k := 0) rfl (by decide) rfl (by decide) wl_7 wq_4_3 (by decide) dX7_findOrder_19 (by assumption) (by assumption) ?_
        refine z_bipush C dX7_findOrder_22 (by decide) ?_
        refine z_aload_n C dX7_findOrder_24 rfl ?_
        refine z_gR C (ci := 7) (k := 7) rfl (by decide) rfl (by decide) wl_7 wq_4_8 (by decide) dX7_findOrder_25 (by assumption) (by assumption) ?_
        refine z_iload_n C dX7_findOrder_28 rfl ?_
        refine z_iconst C dX7_findOrder_29 ?_
        refine z_isub C dX7_findOrder_30 ?_
        refine z_ialdk C (q - 1) dX7_findOrder_31 (by assumption) (by first | rfl | omega) (by omega) (by omega) ?_
        rw [va_up_s, rowB_at (by omega) h2]
        have hlt := ordC_lt (fun j => I (o + 1) (6 + j)) r (q - 1) (by omega)
        have c2 := hO.2.2.2.2.2.2.1 (ordC (fun j => I (o + 1) (6 + j)) r (q - 1)) (by omega)
        refine z_iadd C dX7_findOrder_32 ?_
        refine z_ialdk C (6 + ordC (fun j => I (o + 1) (6 + j)) r (q - 1)) dX7_findOrder_33 (by assumption) (by first | rfl | omega) (by omega) (by omega) ?_
        rw [va_up_n (by omega)]
        refine z_aload_n C dX7_findOrder_34 rfl ?_
        refine z_gR C (ci := 7) (k := 0) rfl (by decide) rfl (by decide) wl_7 wq_4_3 (by decide) dX7_findOrder_35 (by assumption) (by assumption) ?_
        refine z_bipush C dX7_findOrder_38 (by decide) ?_
        refine z_iload_n C dX7_findOrder_40 rfl ?_
        refine z_iadd C dX7_findOrder_41 ?_
        refine z_ialdk C (6 + r) dX7_findOrder_42 (by assumption) (by first | rfl | omega) (by omega) (by omega) ?_
        rw [va_up_n (by omega)]
        refine z_icmp_le C (tgt := 66) dX7_findOrder_43 (by decide) (by first | omega | exact b2i_r) (by first | omega | exact b2i_r) (fun h43 => ?_) (fun h43 => ?_)
        · have hq : insQ (fun j => I (o + 1) (6 + j)) (ordC (fun j => I (o + 1) (6 + j)) r) r r = q := by
            rcases Nat.eq_zero_or_pos q with hq0 | hq0
            · subst hq0; exact h3
            · first
              | (exfalso; omega)
              | (obtain ⟨q9, rfl⟩ : ∃ q9, q = q9 + 1 := ⟨q - 1, (by omega)⟩
                 rw [h3]
                 have h44 : (fun j => I (o + 1) (6 + j)) (ordC (fun j => I (o + 1) (6 + j)) r q9) ≤ (fun j => I (o + 1) (6 + j)) r := h43
                 exact if_pos h44)
          refine z_aload_n C dX7_findOrder_66 rfl ?_
          refine z_gR C (ci := 7) (k := 7) rfl (by decide) rfl (by decide) wl_7 wq_4_8 (by decide) dX7_findOrder_67 (by assumption) (by assumption) ?_
          refine z_iload_n C dX7_findOrder_70 rfl ?_
          refine z_iload_n C dX7_findOrder_71 rfl ?_
          refine z_iastk C (q) dX7_findOrder_72 (by assumption) (by first | rfl | omega) (by omega) (by omega) ?_
          rw [u2_vst, rowB_e h2 hq]
          refine z_iinc C dX7_findOrder_73 rfl (by decide) rfl ?_
          refine z_goto C (tgt := 2) dX7_findOrder_76 (by decide) ?_
          exact z_sub [0, 1] rfl rfl hout
        · refine z_aload_n C dX7_findOrder_46 rfl ?_
          refine z_gR C (ci := 7) (k := 7) rfl (by decide) rfl (by decide) wl_7 wq_4_8 (by decide) dX7_findOrder_47 (by assumption) (by assumption) ?_
          refine z_iload_n C dX7_findOrder_50 rfl ?_
          refine z_aload_n C dX7_findOrder_51 rfl ?_
          refine z_gR C (ci := 7) (k := 7) rfl (by decide) rfl (by decide) wl_7 wq_4_8 (by decide) dX7_findOrder_52 (by assumption) (by assumption) ?_
          refine z_iload_n C dX7_findOrder_55 rfl ?_
          refine z_iconst C dX7_findOrder_56 ?_
          refine z_isub C dX7_findOrder_57 ?_
          refine z_ialdk C (q - 1) dX7_findOrder_58 (by assumption) (by first | rfl | omega) (by omega) (by omega) ?_
          rw [va_up_s, rowB_at (by omega) h2]
          refine z_iastk C (q) dX7_findOrder_59 (by assumption) (by first | rfl | omega) (by omega) (by omega) ?_
          rw [u2_vst, rowB_s (by omega) h2]
          refine z_iinc C dX7_findOrder_60 rfl (by decide) rfl ?_
          rw [show (q : Int) + -1 = ((q - 1 : Nat) : Int) by omega]
          refine z_goto C (tgt := 14) dX7_findOrder_63 (by decide) ?_
          refine ih (q - 1) r h1 (by omega) ?_ (by omega) hout
          rw [h3]
          obtain ⟨q9, rfl⟩ : ∃ q9, q = q9 + 1 := ⟨q - 1, by omega⟩
          rw [Nat.add_sub_cancel] at h43 ⊢
          exact if_neg (by omega)
  have hloop : ∀ (n r : Nat), (r : Int) ≤ I (o + 1) 3 → I (o + 1) 3 - r < n → Zq p l e9 ⟨0, 0, 0, 0⟩ s mt args below meth c G 3 Q 0 0 z K N (va_up I (o + 6) (rowO (fun j => I (o + 1) (6 + j)) r (I (o + 6)))) R 2 [(0, .ref o), (1, .int (zI (r : Int)))] [] := by
    intro n
    induction n with
    | zero => intro r h1 h2; exact absurd h2 (by omega)
    | succ n ih =>
      intro r h1 h2
      refine z_iload_n C dX7_findOrder_2 rfl ?_
      refine z_aload_n C dX7_findOrder_3 rfl ?_
      refine z_gR C (ci := 7) (k := 0) rfl (by decide) rfl (by decide) wl_7 wq_4_3 (by decide) dX7_findOrder_4 (by assumption) (by assumption) ?_
      refine z_iconst C dX7_findOrder_7 ?_
      refine z_ialdk C (3) dX7_findOrder_8 (by assumption) (by first | rfl | omega) (by omega) (by omega) ?_
      rw [va_up_n (by omega)]
      refine z_icmp_ge C (tgt := 79) dX7_findOrder_9 (by decide) (by first | omega | exact b2i_r) (by first | omega | exact b2i_r) (fun h9 => ?_) (fun h9 => ?_)
      · exact z_vret2 C hQ rfl dX7_findOrder_79 ⟨rfl, rfl, rfl, rfl, by rw [show r = (I (o + 1) 3).toNat by omega], rfl⟩
      · refine z_iload_n C dX7_findOrder_12 rfl ?_
        refine z_istore_n C dX7_findOrder_13 (by decide) rfl ?_
        refine z_mem (I' := (va_up I (o + 6) (rowB (fun j => I (o + 1) (6 + j)) r r (I (o + 6))))) (by rw [rowB_0]) rfl ?_
        exact hin9 (r + 1) r r (by omega) (by omega) rfl (by omega) (ih (r + 1) (by omega) (by omega))
  refine z_iconst C dX7_findOrder_0 ?_
  refine z_istore_n C dX7_findOrder_1 (by decide) rfl ?_
  refine z_mem (I' := (va_up I (o + 6) (rowO (fun j => I (o + 1) (6 + j)) 0 (I (o + 6))))) (by rw [show rowO (fun j => I (o + 1) (6 + j)) 0 (I (o + 6)) = I (o + 6) from funext fun j => if_neg (by omega), va_upS]) rfl ?_
  exact hloop 15 0 (by omega) (by omega)

def tstW (f : Nat → Int) (er pl sp : Int) : Nat → Int := wrg (tpr f) er pl sp
def rowR (f : Nat → Int) (er pl sp : Int) (k : Nat) (old : Nat → Int) : Nat → Int := fun j => if j < k then rdg (tpr f) er pl sp j else old j
/-- the model's memory inside a test, behind k readings -/
def tstM (I : MI) (o : Nat) (er pl sp : Int) (k : Nat) : MI := u2 (u2 (va_up (va_up I (o + 6) (rowO (fun j => I (o + 1) (6 + j)) (I (o + 1) 3).toNat (I (o + 6)))) (o + 7) (rowR (I (o + 1)) er pl sp k (I (o + 7)))) o 10 (wst (tstW (I (o + 1)) er pl sp) k)) o 9 (grt (tstW (I (o + 1)) er pl sp) k)
theorem tstM_r (I : MI) (o : Nat) (er pl sp : Int) (k b : Nat) (h : b ≠ o) (h6 : b ≠ o + 6) (h7 : b ≠ o + 7) : tstM I o er pl sp k b = I b := by
  unfold tstM
  rw [u2_row h, u2_row h, va_up_n h7, va_up_n h6]
theorem tstM_6 (I : MI) (o : Nat) (er pl sp : Int) (k : Nat) : tstM I o er pl sp k (o + 6) = rowO (fun j => I (o + 1) (6 + j)) (I (o + 1) 3).toNat (I (o + 6)) := by
  unfold tstM
  rw [u2_row (by omega), u2_row (by omega), va_up_n (by omega), va_up_s]
theorem tstM_7 (I : MI) (o : Nat) (er pl sp : Int) (k : Nat) : tstM I o er pl sp k (o + 7) = rowR (I (o + 1)) er pl sp k (I (o + 7)) := by
  unfold tstM
  rw [u2_row (by omega), u2_row (by omega), va_up_s]
theorem tstM_9 (I : MI) (o : Nat) (er pl sp : Int) (k : Nat) : tstM I o er pl sp k o 9 = grt (tstW (I (o + 1)) er pl sp) k := u2_s _ _ _ _
theorem tstM_10 (I : MI) (o : Nat) (er pl sp : Int) (k : Nat) : tstM I o er pl sp k o 10 = wst (tstW (I (o + 1)) er pl sp) k := by
  unfold tstM
  rw [u2_k (by omega), u2_s]
theorem tstM_j (I : MI) (o : Nat) (er pl sp : Int) (k j : Nat) (h : j ≠ 9) (h2 : j ≠ 10) : tstM I o er pl sp k o j = I o j := by
  unfold tstM
  rw [u2_k h, u2_k h2, va_up_n (by omega), va_up_n (by omega)]
theorem tstM_0 (I : MI) (o : Nat) (er pl sp : Int) : va_up (u2 (u2 I o 9 (-1)) o 10 0) (o + 6) (rowO (fun j => u2 (u2 I o 9 (-1)) o 10 0 (o + 1) (6 + j)) (u2 (u2 I o 9 (-1)) o 10 0 (o + 1) 3).toNat (u2 (u2 I o 9 (-1)) o 10 0 (o + 6))) = tstM I o er pl sp 0 := by
  have e1 : u2 (u2 I o 9 (-1)) o 10 0 (o + 1) = I (o + 1) := by rw [u2_row (by omega), u2_row (by omega)]
  have e6 : u2 (u2 I o 9 (-1)) o 10 0 (o + 6) = I (o + 6) := by rw [u2_row (by omega), u2_row (by omega)]
  have e7 : rowR (I (o + 1)) er pl sp 0 (I (o + 7)) = I (o + 7) := funext fun j => if_neg (by omega)
  rw [e1, e6]
  unfold tstM
  rw [e7]
  funext b j
  by_cases h0 : b = o
  · subst h0
    rw [va_up_n (by omega)]
    by_cases h9 : j = 9
    · subst h9; rw [u2_s, u2_k (by omega), u2_s]; rfl
    · by_cases h10 : j = 10
      · subst h10; rw [u2_s, u2_k (by omega), u2_s]; rfl
      · rw [u2_k h10, u2_k h9, u2_k h9, u2_k h10, va_up_n (by omega), va_up_n (by omega)]
  · by_cases h6 : b = o + 6
    · subst h6
      rw [va_up_s, u2_row (by omega), u2_row (by omega), va_up_n (by omega), va_up_s]
    · rw [va_up_n h6, u2_row h0, u2_row h0, u2_row h0, u2_row h0]
      by_cases h7 : b = o + 7
      · subst h7; rw [va_up_s]
      · rw [va_up_n h7, va_up_n h6]
theorem tstM_s (I : MI) (o : Nat) (er pl sp : Int) (k : Nat) : u2 (u2 (u2 (tstM I o er pl sp k) (o + 7) k (rdg (tpr (I (o + 1))) er pl sp k)) o 10 (wst (tstW (I (o + 1)) er pl sp) (k + 1))) o 9 (grt (tstW (I (o + 1)) er pl sp) (k + 1)) = tstM I o er pl sp (k + 1) := by
  have e7 : st1 (rowR (I (o + 1)) er pl sp k (I (o + 7))) k (rdg (tpr (I (o + 1))) er pl sp k) = rowR (I (o + 1)) er pl sp (k + 1) (I (o + 7)) := by
    funext j
    unfold st1 rowR
    by_cases h : j = k
    · rw [if_pos h, if_pos (by omega), h]
    · rw [if_neg h]
      by_cases h2 : j < k
      · rw [if_pos h2, if_pos (by omega)]
      · rw [if_neg h2, if_neg (by omega)]
  funext b j
  by_cases h0 : b = o
  · subst h0
    by_cases h9 : j = 9
    · subst h9; rw [u2_s, tstM_9]
    · by_cases h10 : j = 10
      · subst h10; rw [u2_k (by omega), u2_s, tstM_10]
      · rw [u2_k h9, u2_k h10, u2_row (by omega), tstM_j _ _ _ _ _ _ _ h9 h10, tstM_j _ _ _ _ _ _ _ h9 h10]
  · rw [u2_row h0, u2_row h0]
    by_cases h7 : b = o + 7
    · subst h7
      rw [u2_st, va_up_s, tstM_7, tstM_7, e7]
    · rw [u2_row h7]
      by_cases h6 : b = o + 6
      · subst h6; rw [tstM_6, tstM_6]
      · rw [tstM_r _ _ _ _ _ _ _ h0 h6 h7, tstM_r _ _ _ _ _ _ _ h0 h6 h7]
theorem tstW_rng {f : Nat → Int} (h : Ok f) {er pl sp : Int} (he : -99 ≤ er ∧ er ≤ 99) (hl : 0 ≤ pl ∧ pl ≤ 99) (hs : 1 ≤ sp ∧ sp ≤ 99) {k : Nat} (hk : k < 2 * (f 3).toNat) : 0 ≤ tstW f er pl sp k ∧ tstW f er pl sp k ≤ 16000198 := by
  have h1 := tpr_rng h hk
  have h2 := hnd_rng (pr := tpr f) (fun k hk => tpr_rng h hk) he hl (k + 1) (by omega)
  have h3 := rdg_rng h2 hs
  unfold tstW wrg rdg absz
  split <;> omega
set_option maxHeartbeats 4000000 in
set_option maxRecDepth 100000 in
theorem mX7_tests (l : Launch) (G : GG) {z : Nat} {K N : Nat → Nat} {I : MI} {R : MR} {o : Nat} (hM : ShM G z K N R o) (hO : Ok (I (o + 1))) {g : Nat} (hg : (g : Int) < I (o + 1) 5) {er : Int} (he : -99 ≤ er ∧ er ≤ 99) : Cod l G yX7_tests (Cond.code yX7_tests cX7_tests 10 none :: wsL_law) ⟨4, 0, 0, 86⟩ [.ref o, .int (zI (g : Int)), .int (zI er)] z K N I R none (tstM I o er (I (o + 1) (21 + 36 * g)) (I (o + 1) (22 + 36 * g)) (2 * (I (o + 1) 3).toNat)) R := by
  refine Con.of (own := RX7) (cc := cX7_tests) (maxL := 10) (ret := none) (by decide +kernel) rfl rfl (Nat.le_of_ble_eq_true rfl) (by decide) rfl ?_
  intro p e9 s mt args below meth c Q hin hQ C
  obtain ⟨ho, ⟨r0, r1, r3, r4, r5, r7, r8⟩, ⟨k1, k2, k3, k4, k5, k6, k7⟩, n1, n2, n3, n4, n5, n6, n7⟩ := id hM
  have h3 := hO.2.2.2.1
  have h5 := hO.2.2.2.2.2.1
  obtain ⟨c1, c2, c3, c4, c5⟩ := hO.2.2.2.2.2.2.2 g hg
  have hmid : ∀ (n k : Nat), (k : Int) < 2 * I (o + 1) 3 → 2 * I (o + 1) 3 - k < (n + 1 : Nat) → (∀ k : Nat, (k : Int) ≤ 2 * I (o + 1) 3 → 2 * I (o + 1) 3 - k < n → Zq p l e9 ⟨4, 0, 0, 86⟩ s mt args below meth c G 10 Q 0 0 z K N (tstM I o er (I (o + 1) (21 + 36 * g)) (I (o + 1) (22 + 36 * g)) k) R 30 [(0, .ref o), (1, .int (zI (g : Int))), (2, .int (zI er)), (3, .int (zI (I (o + 1) 3))), (4, .int (zI (hnd (tpr (I (o + 1))) er (I (o + 1) (21 + 36 * g)) k))), (5, .int (zI (ssK (fun j => I (o + 1) (6 + j)) (I (o + 1) 3).toNat k))), (6, .int (zI (k : Int)))] []) → Zq p l e9 ⟨4, 0, 0, 86⟩ s mt args below meth c G 10 Q 0 0 z K N (tstM I o er (I (o + 1) (21 + 36 * g)) (I (o + 1) (22 + 36 * g)) k) R 61 [(0, .ref o), (1, .int (zI (g : Int))), (2, .int (zI er)), (3, .int (zI (I (o + 1) 3))), (4, .int (zI (hnd (tpr (I (o + 1))) er (I (o + 1) (21 + 36 * g)) k))), (5, .int (zI (ssK (fun j => I (o + 1) (6 + j)) (I (o + 1) 3).toNat k))), (6, .int (zI (k : Int)))] [.int (zI (((if k < (I (o + 1) 3).toNat then k else 2 * (I (o + 1) 3).toNat - 1 - k : Nat)) : Int)), .ref (o + 6)] := by
    intro n k h1 h2 ih
    have hix : (if k < (I (o + 1) 3).toNat then k else 2 * (I (o + 1) 3).toNat - 1 - k) < 14 := by split <;> omega
    refine z_ialdk C (if k < (I (o + 1) 3).toNat then k else 2 * (I (o + 1) 3).toNat - 1 - k) dX7_tests_61 (by assumption) (by first | rfl | omega) (by omega) (by omega) ?_
    rw [tstM_6, show rowO (fun j => I (o + 1) (6 + j)) (I (o + 1) 3).toNat (I (o + 6)) (if k < (I (o + 1) 3).toNat then k else 2 * (I (o + 1) 3).toNat - 1 - k) = (rngK (fun j => I (o + 1) (6 + j)) (I (o + 1) 3).toNat k : Int) from if_pos (by split <;> omega)]
    have hrk := rngK_lt (fun j => I (o + 1) (6 + j)) (n := (I (o + 1) 3).toNat) (k := k) (by omega)
    have hss := ssK_all (fun j => I (o + 1) (6 + j)) (I (o + 1) 3).toNat k (by omega)
    have hss2 := ssK_all (fun j => I (o + 1) (6 + j)) (I (o + 1) 3).toNat (k + 1) (by omega)
    have hp14 : (2 : Int) ^ (I (o + 1) 3).toNat ≤ 16384 := pow_le (b := 14) (by omega)
    have htp := tpr_rng hO (k := k) (by omega)
    have hhd := hnd_rng (pr := tpr (I (o + 1))) (fun k hk => tpr_rng hO hk) he c2 k (by omega)
    have hhd2 := hnd_rng (pr := tpr (I (o + 1))) (fun k hk => tpr_rng hO hk) he c2 (k + 1) (by omega)
    have hrd := rdg_rng hhd2 c3
    have htw := tstW_rng hO he c2 c3 (k := k) (by omega)
    refine z_istore C dX7_tests_62 (by decide) rfl ?_
    refine z_iload C dX7_tests_64 rfl ?_
    refine z_iconst C dX7_tests_66 ?_
    refine z_iload C dX7_tests_67 rfl ?_
    refine z_ishl C dX7_tests_69 (zI_shl (by omega)) ?_
    refine z_ixor C dX7_tests_70 (zI_xorb (by omega) _) ?_
    refine z_istore C dX7_tests_71 (by decide) rfl ?_
    refine z_aload_n C dX7_tests_73 rfl ?_
    refine z_iload C dX7_tests_74 rfl ?_
    refine z_callVd C (ci := 7) rfl (by decide) (by first | assumption | exact hM.1) (mX7_pressureOf l G hM (by rw [tstM_r _ _ _ _ _ _ _ (by omega) (by omega) (by omega)]; exact hO) (sm := ssK (fun j => I (o + 1) (6 + j)) (I (o + 1) 3).toNat (k + 1)) (by omega)) (cwV 1 C.2.2.2.2.1 gv7_67 rfl rfl rfl hd_X7_pressureOf ⟨Nat.le_of_ble_eq_true rfl, Nat.le_of_ble_eq_true rfl⟩) rfl rfl (Nat.le_of_ble_eq_true rfl) dX7_tests_76 ⟨Nat.zero_le _, Nat.zero_le _⟩ ?_
    rw [tstM_r _ _ _ _ _ _ _ (by omega) (by omega) (by omega), tpr_eq k (by omega)]
    refine z_istore C dX7_tests_79 (by decide) rfl ?_
    refine z_iload C dX7_tests_81 rfl ?_
    refine z_iload C dX7_tests_83 rfl ?_
    refine z_iload_n C dX7_tests_85 rfl ?_
    refine z_aload_n C dX7_tests_86 rfl ?_
    refine z_iload_n C dX7_tests_87 rfl ?_
    refine z_iconst C dX7_tests_88 ?_
    refine z_callVd C (ci := 7) rfl (by decide) (by first | assumption | exact hM.1) (mX7_part l G hM (by omega) (by omega)) (cwV 2 C.2.2.2.2.1 gv7_64 rfl rfl rfl hd_X7_part ⟨Nat.le_of_ble_eq_true rfl, Nat.le_of_ble_eq_true rfl⟩) rfl rfl (Nat.le_of_ble_eq_true rfl) dX7_tests_89 ⟨Nat.zero_le _, Nat.zero_le _⟩ ?_
    rw [tstM_r _ _ _ _ _ _ _ (by omega) (by omega) (by omega), show (20 + 36 * (g : Int) + 1).toNat = 21 + 36 * g by omega]
    refine z_callSd C (mX7_goesTo l G htp he c2 hhd) (va_cwS 4 C.2.2.2.2.1 gv7_70 rfl rfl rfl hs_X7_goesTo ⟨Nat.le_of_ble_eq_true rfl, Nat.le_of_ble_eq_true rfl⟩) rfl rfl (Nat.le_of_ble_eq_true rfl) dX7_tests_92 ⟨Nat.zero_le _, Nat.zero_le _⟩ ?_
    refine z_istore C dX7_tests_95 (by decide) rfl ?_
    refine z_aload_n C dX7_tests_97 rfl ?_
    refine z_gR C (ci := 7) (k := 8) rfl (by decide) rfl (by decide) wl_7 wq_4_9 (by decide) dX7_tests_98 (by assumption) (by assumption) ?_
    refine z_iload C dX7_tests_101 rfl ?_
    refine z_iload C dX7_tests_103 rfl ?_
    refine z_aload_n C dX7_tests_105 rfl ?_
    refine z_iload_n C dX7_tests_106 rfl ?_
    refine z_iconst C dX7_tests_107 ?_
    refine z_callVd C (ci := 7) rfl (by decide) (by first | assumption | exact hM.1) (mX7_part l G hM (by omega) (by omega)) (cwV 2 C.2.2.2.2.1 gv7_64 rfl rfl rfl hd_X7_part ⟨Nat.le_of_ble_eq_true rfl, Nat.le_of_ble_eq_true rfl⟩) rfl rfl (Nat.le_of_ble_eq_true rfl) dX7_tests_108 ⟨Nat.zero_le _, Nat.zero_le _⟩ ?_
    rw [tstM_r _ _ _ _ _ _ _ (by omega) (by omega) (by omega), show (20 + 36 * (g : Int) + 2).toNat = 22 + 36 * g by omega]
    refine z_callSd C (mX7_reads l G hhd2 c3) (va_cwS 2 C.2.2.2.2.1 gv7_94 rfl rfl rfl hs_X7_reads ⟨Nat.le_of_ble_eq_true rfl, Nat.le_of_ble_eq_true rfl⟩) rfl rfl (Nat.le_of_ble_eq_true rfl) dX7_tests_111 ⟨Nat.zero_le _, Nat.zero_le _⟩ ?_
    refine z_iastk C (k) dX7_tests_114 (by assumption) (by first | rfl | omega) (by omega) (by omega) ?_
    obtain ⟨J, hJ⟩ : ∃ J : MI, J = u2 (tstM I o er (I (o + 1) (21 + 36 * g)) (I (o + 1) (22 + 36 * g)) k) (o + 7) k (rnd (hnd (tpr (I (o + 1))) er (I (o + 1) (21 + 36 * g)) (k + 1)) (I (o + 1) (22 + 36 * g)) * (I (o + 1) (22 + 36 * g))) := ⟨_, rfl⟩
    rw [← hJ]
    have j9 : J o 9 = grt (tstW (I (o + 1)) er (I (o + 1) (21 + 36 * g)) (I (o + 1) (22 + 36 * g))) k := by rw [hJ, u2_row (by omega), tstM_9]
    have j10 : J o 10 = wst (tstW (I (o + 1)) er (I (o + 1) (21 + 36 * g)) (I (o + 1) (22 + 36 * g))) k := by rw [hJ, u2_row (by omega), tstM_10]
    have j7 : J (o + 7) k = rdg (tpr (I (o + 1))) er (I (o + 1) (21 + 36 * g)) (I (o + 1) (22 + 36 * g)) k := by rw [hJ, u2_s]; rfl
    have hg9 := grt_rng (w := (tstW (I (o + 1)) er (I (o + 1) (21 + 36 * g)) (I (o + 1) (22 + 36 * g)))) (n := 2 * (I (o + 1) 3).toNat) (fun k hk => tstW_rng hO he c2 c3 hk) (by omega) k (by omega)
    refine z_aload_n C dX7_tests_115 rfl ?_
    refine z_gR C (ci := 7) (k := 8) rfl (by decide) rfl (by decide) wl_7 wq_4_9 (by decide) dX7_tests_116 (by assumption) (by assumption) ?_
    refine z_iload C dX7_tests_119 rfl ?_
    refine z_ialdk C (k) dX7_tests_121 (by assumption) (by first | rfl | omega) (by omega) (by omega) ?_
    rw [j7]
    have hrd2 : 0 ≤ rdg (tpr (I (o + 1))) er (I (o + 1) (21 + 36 * g)) (I (o + 1) (22 + 36 * g)) k ∧ rdg (tpr (I (o + 1))) er (I (o + 1) (21 + 36 * g)) (I (o + 1) (22 + 36 * g)) k ≤ 16000198 := hrd
    refine z_iload C dX7_tests_122 rfl ?_
    refine z_isub C dX7_tests_124 ?_
    refine z_callSd C (mX7_size l G (by omega)) (va_cwS 1 C.2.2.2.2.1 gv7_58 rfl rfl rfl hs_X7_size ⟨Nat.le_of_ble_eq_true rfl, Nat.le_of_ble_eq_true rfl⟩) rfl rfl (Nat.le_of_ble_eq_true rfl) dX7_tests_125 ⟨Nat.zero_le _, Nat.zero_le _⟩ ?_
    refine z_top (x := .int (zI (absz (rdg (tpr (I (o + 1))) er (I (o + 1) (21 + 36 * g)) (I (o + 1) (22 + 36 * g)) k - tpr (I (o + 1)) k)))) (y := .int (zI ((tstW (I (o + 1)) er (I (o + 1) (21 + 36 * g)) (I (o + 1) (22 + 36 * g))) k))) rfl ?_
    refine z_istore C dX7_tests_128 (by decide) rfl ?_
    refine z_aload_n C dX7_tests_130 rfl ?_
    refine z_iload C dX7_tests_131 rfl ?_
    refine z_aload_n C dX7_tests_133 rfl ?_
    refine z_gI C (ci := 7) (k := 9) rfl (by decide) rfl (by decide) wl_7 wq_19_1 rfl dX7_tests_134 (by assumption) ?_
    rw [j9]
    refine z_icmp_le C (tgt := 145) dX7_tests_137 (by decide) (by first | omega | exact b2i_r) (by first | omega | exact b2i_r) (fun h137 => ?_) (fun h137 => ?_)
    · refine z_aload_n C dX7_tests_145 rfl ?_
      refine z_gI C (ci := 7) (k := 10) rfl (by decide) rfl (by decide) wl_7 wq_19_6 rfl dX7_tests_146 (by assumption) ?_
      refine z_top (y := .int (zI (wst (tstW (I (o + 1)) er (I (o + 1) (21 + 36 * g)) (I (o + 1) (22 + 36 * g))) (k + 1)))) (by first | exact congrArg (fun x => Value.int (zI x)) (if_pos (by omega)).symm | (rw [j10]; exact congrArg (fun x => Value.int (zI x)) (if_neg (by omega)).symm)) ?_
      refine z_pI C (ci := 7) (k := 10) rfl (by decide) rfl (by decide) tyX7_ok nmX7 wl_7 wq_19_6 rfl (Or.inl rfl) dX7_tests_149 (by assumption) ?_
      refine z_aload_n C dX7_tests_152 rfl ?_
      refine z_iload C dX7_tests_153 rfl ?_
      refine z_aload_n C dX7_tests_155 rfl ?_
      refine z_gI C (ci := 7) (k := 9) rfl (by decide) rfl (by decide) wl_7 wq_19_1 rfl dX7_tests_156 (by assumption) ?_
      rw [u2_k (by omega), j9]
      refine z_icmp_le C (tgt := 167) dX7_tests_159 (by decide) (by first | omega | exact b2i_r) (by first | omega | exact b2i_r) (fun h159 => ?_) (fun h159 => ?_)
      · refine z_aload_n C dX7_tests_167 rfl ?_
        refine z_gI C (ci := 7) (k := 9) rfl (by decide) rfl (by decide) wl_7 wq_19_1 rfl dX7_tests_168 (by assumption) ?_
        refine z_top (y := .int (zI (grt (tstW (I (o + 1)) er (I (o + 1) (21 + 36 * g)) (I (o + 1) (22 + 36 * g))) (k + 1)))) (by first | exact congrArg (fun x => Value.int (zI x)) (if_pos (by omega)).symm | (rw [u2_k (by omega), j9]; exact congrArg (fun x => Value.int (zI x)) (if_neg (by omega)).symm)) ?_
        refine z_pI C (ci := 7) (k := 9) rfl (by decide) rfl (by decide) tyX7_ok nmX7 wl_7 wq_19_1 rfl (Or.inl rfl) dX7_tests_171 (by assumption) ?_
        rw [hJ]
        refine z_mem (I' := (tstM I o er (I (o + 1) (21 + 36 * g)) (I (o + 1) (22 + 36 * g)) (k + 1))) (tstM_s I o er (I (o + 1) (21 + 36 * g)) (I (o + 1) (22 + 36 * g)) k) rfl ?_
        refine z_iinc C dX7_tests_174 rfl (by decide) rfl ?_
        refine z_goto C (tgt := 30) dX7_tests_177 (by decide) ?_
        exact z_sub [0, 1, 2, 3, 4, 5, 6] rfl rfl (ih (k + 1) (by omega) (by omega))
      · refine z_iload C dX7_tests_162 rfl ?_
        refine z_goto C (tgt := 171) dX7_tests_164 (by decide) ?_
        refine z_top (y := .int (zI (grt (tstW (I (o + 1)) er (I (o + 1) (21 + 36 * g)) (I (o + 1) (22 + 36 * g))) (k + 1)))) (by first | exact congrArg (fun x => Value.int (zI x)) (if_pos (by omega)).symm | (rw [u2_k (by omega), j9]; exact congrArg (fun x => Value.int (zI x)) (if_neg (by omega)).symm)) ?_
        refine z_pI C (ci := 7) (k := 9) rfl (by decide) rfl (by decide) tyX7_ok nmX7 wl_7 wq_19_1 rfl (Or.inl rfl) dX7_tests_171 (by assumption) ?_
        rw [hJ]
        refine z_mem (I' := (tstM I o er (I (o + 1) (21 + 36 * g)) (I (o + 1) (22 + 36 * g)) (k + 1))) (tstM_s I o er (I (o + 1) (21 + 36 * g)) (I (o + 1) (22 + 36 * g)) k) rfl ?_
        refine z_iinc C dX7_tests_174 rfl (by decide) rfl ?_
        refine z_goto C (tgt := 30) dX7_tests_177 (by decide) ?_
        exact z_sub [0, 1, 2, 3, 4, 5, 6] rfl rfl (ih (k + 1) (by omega) (by omega))
    · refine z_iload C dX7_tests_140 rfl ?_
      refine z_goto C (tgt := 149) dX7_tests_142 (by decide) ?_
      refine z_top (y := .int (zI (wst (tstW (I (o + 1)) er (I (o + 1) (21 + 36 * g)) (I (o + 1) (22 + 36 * g))) (k + 1)))) (by first | exact congrArg (fun x => Value.int (zI x)) (if_pos (by omega)).symm | (rw [j10]; exact congrArg (fun x => Value.int (zI x)) (if_neg (by omega)).symm)) ?_
      refine z_pI C (ci := 7) (k := 10) rfl (by decide) rfl (by decide) tyX7_ok nmX7 wl_7 wq_19_6 rfl (Or.inl rfl) dX7_tests_149 (by assumption) ?_
      refine z_aload_n C dX7_tests_152 rfl ?_
      refine z_iload C dX7_tests_153 rfl ?_
      refine z_aload_n C dX7_tests_155 rfl ?_
      refine z_gI C (ci := 7) (k := 9) rfl (by decide) rfl (by decide) wl_7 wq_19_1 rfl dX7_tests_156 (by assumption) ?_
      rw [u2_k (by omega), j9]
      refine z_icmp_le C (tgt := 167) dX7_tests_159 (by decide) (by first | omega | exact b2i_r) (by first | omega | exact b2i_r) (fun h159 => ?_) (fun h159 => ?_)
      · refine z_aload_n C dX7_tests_167 rfl ?_
        refine z_gI C (ci := 7) (k := 9) rfl (by decide) rfl (by decide) wl_7 wq_19_1 rfl dX7_tests_168 (by assumption) ?_
        refine z_top (y := .int (zI (grt (tstW (I (o + 1)) er (I (o + 1) (21 + 36 * g)) (I (o + 1) (22 + 36 * g))) (k + 1)))) (by first | exact congrArg (fun x => Value.int (zI x)) (if_pos (by omega)).symm | (rw [u2_k (by omega), j9]; exact congrArg (fun x => Value.int (zI x)) (if_neg (by omega)).symm)) ?_
        refine z_pI C (ci := 7) (k := 9) rfl (by decide) rfl (by decide) tyX7_ok nmX7 wl_7 wq_19_1 rfl (Or.inl rfl) dX7_tests_171 (by assumption) ?_
        rw [hJ]
        refine z_mem (I' := (tstM I o er (I (o + 1) (21 + 36 * g)) (I (o + 1) (22 + 36 * g)) (k + 1))) (tstM_s I o er (I (o + 1) (21 + 36 * g)) (I (o + 1) (22 + 36 * g)) k) rfl ?_
        refine z_iinc C dX7_tests_174 rfl (by decide) rfl ?_
        refine z_goto C (tgt := 30) dX7_tests_177 (by decide) ?_
        exact z_sub [0, 1, 2, 3, 4, 5, 6] rfl rfl (ih (k + 1) (by omega) (by omega))
      · refine z_iload C dX7_tests_162 rfl ?_
        refine z_goto C (tgt := 171) dX7_tests_164 (by decide) ?_
        refine z_top (y := .int (zI (grt (tstW (I (o + 1)) er (I (o + 1) (21 + 36 * g)) (I (o + 1) (22 + 36 * g))) (k + 1)))) (by first | exact congrArg (fun x => Value.int (zI x)) (if_pos (by omega)).symm | (rw [u2_k (by omega), j9]; exact congrArg (fun x => Value.int (zI x)) (if_neg (by omega)).symm)) ?_
        refine z_pI C (ci := 7) (k := 9) rfl (by decide) rfl (by decide) tyX7_ok nmX7 wl_7 wq_19_1 rfl (Or.inl rfl) dX7_tests_171 (by assumption) ?_
        rw [hJ]
        refine z_mem (I' := (tstM I o er (I (o + 1) (21 + 36 * g)) (I (o + 1) (22 + 36 * g)) (k + 1))) (tstM_s I o er (I (o + 1) (21 + 36 * g)) (I (o + 1) (22 + 36 * g)) k) rfl ?_
        refine z_iinc C dX7_tests_174 rfl (by decide) rfl ?_
        refine z_goto C (tgt := 30) dX7_tests_177 (by decide) ?_
        exact z_sub [0, 1, 2, 3, 4, 5, 6] rfl rfl (ih (k + 1) (by omega) (by omega))
  have hloop : ∀ (n : Nat) (k : Nat), (k : Int) ≤ 2 * I (o + 1) 3 → 2 * I (o + 1) 3 - k < n → Zq p l e9 ⟨4, 0, 0, 86⟩ s mt args below meth c G 10 Q 0 0 z K N (tstM I o er (I (o + 1) (21 + 36 * g)) (I (o + 1) (22 + 36 * g)) k) R 30 [(0, .ref o), (1, .int (zI (g : Int))), (2, .int (zI er)), (3, .int (zI (I (o + 1) 3))), (4, .int (zI (hnd (tpr (I (o + 1))) er (I (o + 1) (21 + 36 * g)) k))), (5, .int (zI (ssK (fun j => I (o + 1) (6 + j)) (I (o + 1) 3).toNat k))), (6, .int (zI (k : Int)))] [] := by
    intro n
    induction n with
    | zero => intro k h1 h2; exact absurd h2 (by omega)
    | succ n ih =>
      intro k h1 h2
      refine z_iload C dX7_tests_30 rfl ?_
      refine z_iconst C dX7_tests_32 ?_
      refine z_iload_n C dX7_tests_33 rfl ?_
      refine z_imul C dX7_tests_34 ?_
      refine z_icmp_ge C (tgt := 180) dX7_tests_35 (by decide) (by first | omega | exact b2i_r) (by first | omega | exact b2i_r) (fun h35 => ?_) (fun h35 => ?_)
      · exact z_vret2 C hQ rfl dX7_tests_180 ⟨rfl, rfl, rfl, rfl, by rw [show k = 2 * (I (o + 1) 3).toNat by omega], rfl⟩
      · refine z_aload_n C dX7_tests_38 rfl ?_
        refine z_gR C (ci := 7) (k := 7) rfl (by decide) rfl (by decide) wl_7 wq_4_8 (by decide) dX7_tests_39 (by assumption) (by assumption) ?_
        refine z_iload C dX7_tests_42 rfl ?_
        refine z_iload_n C dX7_tests_44 rfl ?_
        refine z_icmp_ge C (tgt := 53) dX7_tests_45 (by decide) (by first | omega | exact b2i_r) (by first | omega | exact b2i_r) (fun h45 => ?_) (fun h45 => ?_)
        · refine z_iconst C dX7_tests_53 ?_
          refine z_iload_n C dX7_tests_54 rfl ?_
          refine z_imul C dX7_tests_55 ?_
          refine z_iconst C dX7_tests_56 ?_
          refine z_isub C dX7_tests_57 ?_
          refine z_iload C dX7_tests_58 rfl ?_
          refine z_isub C dX7_tests_60 ?_
          refine z_conv rfl rfl rfl (st' := [.int (zI (((if k < (I (o + 1) 3).toNat then k else 2 * (I (o + 1) 3).toNat - 1 - k : Nat)) : Int)), .ref (o + 6)]) ?_ (hmid n k (by omega) (by omega) ih)
          first | rw [if_pos (show k < (I (o + 1) 3).toNat by omega)] | rw [if_neg (show ¬ k < (I (o + 1) 3).toNat by omega), show 2 * I (o + 1) 3 - 1 - (k : Int) = ((2 * (I (o + 1) 3).toNat - 1 - k : Nat) : Int) by omega]
        · refine z_iload C dX7_tests_48 rfl ?_
          refine z_goto C (tgt := 61) dX7_tests_50 (by decide) ?_
          refine z_conv rfl rfl rfl (st' := [.int (zI (((if k < (I (o + 1) 3).toNat then k else 2 * (I (o + 1) 3).toNat - 1 - k : Nat)) : Int)), .ref (o + 6)]) ?_ (hmid n k (by omega) (by omega) ih)
          first | rw [if_pos (show k < (I (o + 1) 3).toNat by omega)] | rw [if_neg (show ¬ k < (I (o + 1) 3).toNat by omega), show 2 * I (o + 1) 3 - 1 - (k : Int) = ((2 * (I (o + 1) 3).toNat - 1 - k : Nat) : Int) by omega]
  refine z_aload_n C dX7_tests_0 rfl ?_
  refine z_gR C (ci := 7) (k := 0) rfl (by decide) rfl (by decide) wl_7 wq_4_3 (by decide) dX7_tests_1 (by assumption) (by assumption) ?_
  refine z_iconst C dX7_tests_4 ?_
  refine z_ialdk C (3) dX7_tests_5 (by assumption) (by first | rfl | omega) (by omega) (by omega) ?_
  refine z_istore_n C dX7_tests_6 (by decide) rfl ?_
  refine z_iconst C dX7_tests_7 ?_
  refine z_istore C dX7_tests_8 (by decide) rfl ?_
  refine z_iconst C dX7_tests_10 ?_
  refine z_istore C dX7_tests_11 (by decide) rfl ?_
  refine z_aload_n C dX7_tests_13 rfl ?_
  refine z_iconst C dX7_tests_14 ?_
  refine z_pI C (ci := 7) (k := 9) rfl (by decide) rfl (by decide) tyX7_ok nmX7 wl_7 wq_19_1 rfl (Or.inl rfl) dX7_tests_15 (by assumption) ?_
  refine z_aload_n C dX7_tests_18 rfl ?_
  refine z_iconst C dX7_tests_19 ?_
  refine z_pI C (ci := 7) (k := 10) rfl (by decide) rfl (by decide) tyX7_ok nmX7 wl_7 wq_19_6 rfl (Or.inl rfl) dX7_tests_20 (by assumption) ?_
  refine z_aload_n C dX7_tests_23 rfl ?_
  refine z_callVd C (ci := 7) rfl (by decide) (by first | assumption | exact hM.1) (mX7_findOrder l G hM (by rw [u2_row (by omega), u2_row (by omega)]; exact hO)) (cwV 0 C.2.2.2.2.1 gv7_91 rfl rfl rfl hd_X7_findOrder ⟨Nat.le_of_ble_eq_true rfl, Nat.le_of_ble_eq_true rfl⟩) rfl rfl (Nat.le_of_ble_eq_true rfl) dX7_tests_24 ⟨Nat.zero_le _, Nat.zero_le _⟩ ?_
  rw [tstM_0 I o er (I (o + 1) (21 + 36 * g)) (I (o + 1) (22 + 36 * g))]
  refine z_iconst C dX7_tests_27 ?_
  refine z_istore C dX7_tests_28 (by decide) rfl ?_
  exact hloop 29 0 (by omega) (by omega)
end
section
theorem va_upE {α : Type} {f : Nat → α} {a : Nat} {v : α} (h : f a = v) : va_up f a v = f := by subst h; exact va_upS f a
def gTst (f : Nat → Int) (g : Nat) (er : Int) : Int := grt (tstW f er (f (21 + 36 * g)) (f (22 + 36 * g))) (2 * (f 3).toNat)
def wTst (f : Nat → Int) (g : Nat) (er : Int) : Int := wst (tstW f er (f (21 + 36 * g)) (f (22 + 36 * g))) (2 * (f 3).toNat)
def rTst (f : Nat → Int) (g : Nat) (er : Int) (k : Nat) : Int := rdg (tpr f) er (f (21 + 36 * g)) (f (22 + 36 * g)) k
def certB (f : Nat → Int) (g : Nat) : Nat → Int := st1 (st1 (st1 (st1 f (24 + 36 * g) 1) (25 + 36 * g) (gTst f g (f (20 + 36 * g)))) (26 + 36 * g) (f 0)) (27 + 36 * g) (f 1)
def certK (f : Nat → Int) (g k : Nat) : Nat → Int := fun j => if 28 + 36 * g ≤ j ∧ j < 28 + 36 * g + k then (if ((j - (28 + 36 * g) : Nat) : Int) < 2 * f 3 then rTst f g (f (20 + 36 * g)) (j - (28 + 36 * g)) else 0) else certB f g j
def certG (f : Nat → Int) (g : Nat) : Nat → Int := if gTst f g (f (20 + 36 * g)) ≤ f 2 then certK f g 28 else f
theorem certK_s (f : Nat → Int) (g k : Nat) {v : Int} (hv : v = if (k : Int) < 2 * f 3 then rTst f g (f (20 + 36 * g)) k else 0) : st1 (certK f g k) (28 + 36 * g + k) v = certK f g (k + 1) := by
  funext j
  unfold st1 certK
  by_cases h : j = 28 + 36 * g + k
  · rw [if_pos h, if_pos (show 28 + 36 * g ≤ j ∧ j < 28 + 36 * g + (k + 1) by omega), show j - (28 + 36 * g) = k by omega, hv]
  · rw [if_neg h]
    by_cases h2 : 28 + 36 * g ≤ j ∧ j < 28 + 36 * g + k
    · rw [if_pos h2, if_pos (show 28 + 36 * g ≤ j ∧ j < 28 + 36 * g + (k + 1) by omega)]
    · rw [if_neg h2, if_neg (show ¬ (28 + 36 * g ≤ j ∧ j < 28 + 36 * g + (k + 1)) by omega)]
theorem certK_lo {f : Nat → Int} {g k j : Nat} (h : j < 24 + 36 * g) : certK f g k j = f j := by
  unfold certK certB
  rw [if_neg (by omega), st1_n (by omega), st1_n (by omega), st1_n (by omega), st1_n (by omega)]
theorem Ok.cert {f : Nat → Int} (h : Ok f) (g : Nat) : Ok (certG f g) := by
  unfold certG
  split
  · refine h.cong (fun j hj => certK_lo (by omega)) fun q hq => ?_
    obtain ⟨d1, d2, d3, d4, d5⟩ := h.2.2.2.2.2.2.2 q hq
    have e : ∀ j : Nat, (j < 24 + 36 * g ∨ 56 + 36 * g ≤ j) → certK f g 28 j = f j := fun j hj => by
      unfold certK certB
      rw [if_neg (by omega), st1_n (by omega), st1_n (by omega), st1_n (by omega), st1_n (by omega)]
    refine ⟨e _ (by omega), e _ (by omega), e _ (by omega), by rw [e _ (by omega)]; exact d4, ?_⟩
    by_cases hg : q = g
    · subst hg
      right
      unfold certK certB
      rw [if_neg (by omega), st1_n (by omega), st1_n (by omega), st1_n (by omega), st1_s]
    · rw [e _ (by omega)]; exact d5
  · exact h
theorem gTst_rng {f : Nat → Int} (h : Ok f) (h3 : 0 < f 3) {g : Nat} (hg : (g : Int) < f 5) {er : Int} (he : -99 ≤ er ∧ er ≤ 99) : 0 ≤ gTst f g er ∧ gTst f g er ≤ 16000198 := by
  obtain ⟨c1, c2, c3, c4, c5⟩ := h.2.2.2.2.2.2.2 g hg
  unfold gTst
  have hw := fun k (hk : k < 2 * (f 3).toNat) => tstW_rng h he c2 c3 hk
  have h1 := grt_rng (w := tstW f er (f (21 + 36 * g)) (f (22 + 36 * g))) hw (by omega) (2 * (f 3).toNat) (Nat.le_refl _)
  have h2 : ∀ k, 0 < k → k ≤ 2 * (f 3).toNat → 0 ≤ grt (tstW f er (f (21 + 36 * g)) (f (22 + 36 * g))) k := by
    intro k hk hk2
    obtain ⟨q, rfl⟩ : ∃ q, k = q + 1 := ⟨k - 1, by omega⟩
    have := hw q (by omega)
    unfold grt
    split <;> omega
  exact ⟨h2 _ (by omega) (Nat.le_refl _), h1.2⟩
def plcK (F : Nat → Int) (n rg : Nat) : Nat → Int
  | 0 => -6
  | k + 1 => if ordC F n k = rg then (k : Int) else plcK F n rg k
def plcA (f : Nat → Int) (rg : Nat) : Int := plcK (fun j => f (6 + j)) (f 3).toNat rg (f 3).toNat
theorem tstM_t (I : MI) (o : Nat) (er er2 pl sp pl2 sp2 : Int) (k : Nat) : tstM (tstM I o er pl sp k) o er2 pl2 sp2 k = tstM I o er2 pl2 sp2 k := by
  have e1 : tstM I o er pl sp k (o + 1) = I (o + 1) := tstM_r _ _ _ _ _ _ _ (by omega) (by omega) (by omega)
  have r6 : ∀ F n old, rowO F n (rowO F n old) = rowO F n old := fun F n old => funext fun j => by unfold rowO; split <;> rfl
  have r7 : ∀ f old, rowR f er2 pl2 sp2 k (rowR f er pl sp k old) = rowR f er2 pl2 sp2 k old := fun f old => funext fun j => by unfold rowR; split <;> rfl
  funext b j
  by_cases h0 : b = o
  · subst h0
    by_cases h9 : j = 9
    · subst h9; rw [tstM_9, tstM_9, e1]
    · by_cases h10 : j = 10
      · subst h10; rw [tstM_10, tstM_10, e1]
      · rw [tstM_j _ _ _ _ _ _ _ h9 h10, tstM_j _ _ _ _ _ _ _ h9 h10, tstM_j _ _ _ _ _ _ _ h9 h10]
  · by_cases h6 : b = o + 6
    · subst h6; rw [tstM_6, tstM_6, tstM_6, e1, r6]
    · by_cases h7 : b = o + 7
      · subst h7; rw [tstM_7, tstM_7, tstM_7, e1, r7]
      · rw [tstM_r _ _ _ _ _ _ _ h0 h6 h7, tstM_r _ _ _ _ _ _ _ h0 h6 h7, tstM_r _ _ _ _ _ _ _ h0 h6 h7]
def beL (w : Nat → Int) : Nat → Int
  | 0 => -6
  | i + 1 => if beL w i = -6 ∨ w i < beL w i then w i else beL w i
def beB (w : Nat → Int) : Nat → Int
  | 0 => -99
  | i + 1 => if beL w i = -6 ∨ w i < beL w i then (i : Int) - 99 else beB w i
def beW (f : Nat → Int) (g : Nat) : Nat → Int := fun i => gTst f g ((i : Int) - 99)
def bestM (I : MI) (o g i : Nat) : MI := if i = 0 then I else tstM I o ((i : Int) - 100) (I (o + 1) (21 + 36 * g)) (I (o + 1) (22 + 36 * g)) (2 * (I (o + 1) 3).toNat)
def popS (v : Int) : Nat → Int
  | 0 => 0
  | k + 1 => popS v k + v / 2 ^ k % 2
def nrA (f : Nat → Int) (w : Int) : Nat → Int × Int
  | 0 => (0, absz (prsA f 0 - w))
  | k + 1 => if absz (prsA f ((k + 1 : Nat) : Int) - w) < (nrA f w k).2 ∨ (absz (prsA f ((k + 1 : Nat) : Int) - w) = (nrA f w k).2 ∧ popS ((k + 1 : Nat) : Int) 14 < popS (nrA f w k).1 14) then (((k + 1 : Nat) : Int), absz (prsA f ((k + 1 : Nat) : Int) - w)) else nrA f w k
theorem nrA_rng {f : Nat → Int} (h : Ok f) {w : Int} (hw : 0 ≤ w ∧ w < 2147483648) : ∀ k : Nat, (0 ≤ (nrA f w k).1 ∧ (nrA f w k).1 ≤ k) ∧ 0 ≤ (nrA f w k).2 ∧ (nrA f w k).2 < 2147483648
  | 0 => by
    have := prsA_rng h 0
    simp only [nrA, absz]
    split <;> omega
  | k + 1 => by
    have ih := nrA_rng h hw k
    have := prsA_rng h ((k + 1 : Nat) : Int)
    unfold nrA
    split
    · simp only [absz]
      split <;> omega
    · omega
theorem popS_rng (v : Int) : ∀ n : Nat, 0 ≤ popS v n ∧ popS v n ≤ n
  | 0 => by simp [popS]
  | n + 1 => by
    have ih := popS_rng v n
    unfold popS
    omega
set_option maxHeartbeats 4000000 in
set_option maxRecDepth 100000 in
theorem mX7_certifies (l : Launch) (G : GG) {z : Nat} {K N : Nat → Nat} {I : MI} {R : MR} {o : Nat} (hM : ShM G z K N R o) (hO : Ok (I (o + 1))) {g : Nat} (hg : (g : Int) < I (o + 1) 5) (h0 : 0 < I (o + 1) 3) : Cod l G yX7_certifies (Cond.code yX7_certifies cX7_certifies 3 (some .int) :: wsL_law) ⟨5, 0, 0, 115⟩ [.ref o, .int (zI (g : Int))] z K N I R (some (.int (zI (gTst (I (o + 1)) g (I (o + 1) (20 + 36 * g)))))) (va_up (tstM I o (I (o + 1) (20 + 36 * g)) (I (o + 1) (21 + 36 * g)) (I (o + 1) (22 + 36 * g)) (2 * (I (o + 1) 3).toNat)) (o + 1) (certG (I (o + 1)) g)) R := by
  refine Con.of (own := RX7) (cc := cX7_certifies) (maxL := 3) (ret := (some .int)) (by decide +kernel) rfl rfl (Nat.le_of_ble_eq_true rfl) (by decide) rfl ?_
  intro p e9 s mt args below meth c Q hin hQ C
  obtain ⟨ho, ⟨r0, r1, r3, r4, r5, r7, r8⟩, ⟨k1, k2, k3, k4, k5, k6, k7⟩, n1, n2, n3, n4, n5, n6, n7⟩ := id hM
  have h3 := hO.2.2.2.1
  have h5 := hO.2.2.2.2.2.1
  have h2 := hO.2.2.1
  obtain ⟨c1, c2, c3, c4, c5⟩ := hO.2.2.2.2.2.2.2 g hg
  have hgt := gTst_rng hO h0 hg c1
  have hloop : ∀ (n : Nat) (k : Nat), k ≤ 28 → gTst (I (o + 1)) g (I (o + 1) (20 + 36 * g)) ≤ I (o + 1) 2 → 28 - k < n → Zq p l e9 ⟨5, 0, 0, 115⟩ s mt args below meth c G 3 Q 0 0 z K N (va_up (tstM I o (I (o + 1) (20 + 36 * g)) (I (o + 1) (21 + 36 * g)) (I (o + 1) (22 + 36 * g)) (2 * (I (o + 1) 3).toNat)) (o + 1) (certK (I (o + 1)) g k)) R 69 [(0, .ref o), (1, .int (zI (g : Int))), (2, .int (zI (k : Int)))] [] := by
    intro n
    induction n with
    | zero => intro k h1 h0 h2; exact absurd h2 (by omega)
    | succ n ih =>
      intro k h1 h0 h2
      refine z_iload_n C dX7_certifies_69 rfl ?_
      refine z_bipush C dX7_certifies_70 (by decide) ?_
      refine z_icmp_ge C (tgt := 112) dX7_certifies_72 (by decide) (by first | omega | exact b2i_r) (by first | omega | exact b2i_r) (fun h72 => ?_) (fun h72 => ?_)
      · refine z_aload_n C dX7_certifies_112 rfl ?_
        refine z_gI C (ci := 7) (k := 9) rfl (by decide) rfl (by decide) wl_7 wq_19_1 rfl dX7_certifies_113 (by assumption) ?_
        first | rw [va_up_n (by omega), tstM_9] | rw [tstM_9]
        exact z_iret2 C hQ rfl dX7_certifies_116 ⟨rfl, rfl, rfl, rfl, by
      unfold certG
      first
      | (rw [if_pos h0]; rw [show k = 28 by omega]; done)
      | (rw [if_neg (by omega)]; exact (va_upE (tstM_r _ _ _ _ _ _ _ (by omega) (by omega) (by omega))).symm), rfl⟩
      · refine z_aload_n C dX7_certifies_75 rfl ?_
        refine z_iload_n C dX7_certifies_76 rfl ?_
        refine z_bipush C dX7_certifies_77 (by decide) ?_
        refine z_iload_n C dX7_certifies_79 rfl ?_
        refine z_iadd C dX7_certifies_80 ?_
        refine z_iload_n C dX7_certifies_81 rfl ?_
        refine z_iconst C dX7_certifies_82 ?_
        refine z_aload_n C dX7_certifies_83 rfl ?_
        refine z_gR C (ci := 7) (k := 0) rfl (by decide) rfl (by decide) wl_7 wq_4_3 (by decide) dX7_certifies_84 (by assumption) (by assumption) ?_
        refine z_iconst C dX7_certifies_87 ?_
        refine z_ialdk C (3) dX7_certifies_88 (by assumption) (by first | rfl | omega) (by omega) (by omega) ?_
        rw [va_up_s, certK_lo (by omega)]
        refine z_imul C dX7_certifies_89 ?_
        refine z_icmp_ge C (tgt := 102) dX7_certifies_90 (by decide) (by first | omega | exact b2i_r) (by first | omega | exact b2i_r) (fun h90 => ?_) (fun h90 => ?_)
        · refine z_iconst C dX7_certifies_102 ?_
          refine z_callVd C (ci := 7) rfl (by decide) (by first | assumption | exact hM.1) (mX7_setPart l G hM (by omega) (by omega)) (cwV 3 C.2.2.2.2.1 gv7_74 rfl rfl rfl hd_X7_setPart ⟨Nat.le_of_ble_eq_true rfl, Nat.le_of_ble_eq_true rfl⟩) rfl rfl (Nat.le_of_ble_eq_true rfl) dX7_certifies_103 ⟨Nat.zero_le _, Nat.zero_le _⟩ ?_
          rw [show (20 + 36 * (g : Int) + (8 + (k : Int))).toNat = 28 + 36 * g + k by omega, u2_vst, certK_s _ _ _ (by first | exact (if_pos h90).symm | exact (if_neg h90).symm | rw [if_pos (by omega)] | rw [if_neg (by omega)])]
          refine z_iinc C dX7_certifies_106 rfl (by decide) rfl ?_
          refine z_goto C (tgt := 69) dX7_certifies_109 (by decide) ?_
          exact ih (k + 1) (by omega) h0 (by omega)
        · refine z_aload_n C dX7_certifies_93 rfl ?_
          refine z_gR C (ci := 7) (k := 8) rfl (by decide) rfl (by decide) wl_7 wq_4_9 (by decide) dX7_certifies_94 (by assumption) (by assumption) ?_
          refine z_iload_n C dX7_certifies_97 rfl ?_
          refine z_ialdk C (k) dX7_certifies_98 (by assumption) (by first | rfl | omega) (by omega) (by omega) ?_
          rw [va_up_n (by omega), tstM_7, show rowR (I (o + 1)) (I (o + 1) (20 + 36 * g)) (I (o + 1) (21 + 36 * g)) (I (o + 1) (22 + 36 * g)) (2 * (I (o + 1) 3).toNat) (I (o + 7)) k = rTst (I (o + 1)) g (I (o + 1) (20 + 36 * g)) k from if_pos (by omega)]
          refine z_goto C (tgt := 103) dX7_certifies_99 (by decide) ?_
          refine z_callVd C (ci := 7) rfl (by decide) (by first | assumption | exact hM.1) (mX7_setPart l G hM (by omega) (by omega)) (cwV 3 C.2.2.2.2.1 gv7_74 rfl rfl rfl hd_X7_setPart ⟨Nat.le_of_ble_eq_true rfl, Nat.le_of_ble_eq_true rfl⟩) rfl rfl (Nat.le_of_ble_eq_true rfl) dX7_certifies_103 ⟨Nat.zero_le _, Nat.zero_le _⟩ ?_
          rw [show (20 + 36 * (g : Int) + (8 + (k : Int))).toNat = 28 + 36 * g + k by omega, u2_vst, certK_s _ _ _ (by first | exact (if_pos h90).symm | exact (if_neg h90).symm | rw [if_pos (by omega)] | rw [if_neg (by omega)])]
          refine z_iinc C dX7_certifies_106 rfl (by decide) rfl ?_
          refine z_goto C (tgt := 69) dX7_certifies_109 (by decide) ?_
          exact ih (k + 1) (by omega) h0 (by omega)
  refine z_aload_n C dX7_certifies_0 rfl ?_
  refine z_iload_n C dX7_certifies_1 rfl ?_
  refine z_aload_n C dX7_certifies_2 rfl ?_
  refine z_iload_n C dX7_certifies_3 rfl ?_
  refine z_iconst C dX7_certifies_4 ?_
  refine z_callVd C (ci := 7) rfl (by decide) (by first | assumption | exact hM.1) (mX7_part l G hM (by omega) (by omega)) (cwV 2 C.2.2.2.2.1 gv7_64 rfl rfl rfl hd_X7_part ⟨Nat.le_of_ble_eq_true rfl, Nat.le_of_ble_eq_true rfl⟩) rfl rfl (Nat.le_of_ble_eq_true rfl) dX7_certifies_5 ⟨Nat.zero_le _, Nat.zero_le _⟩ ?_
  rw [show (20 + 36 * (g : Int) + 0).toNat = 20 + 36 * g by omega]
  refine z_callVd C (ci := 7) rfl (by decide) (by first | assumption | exact hM.1) (mX7_tests l G hM hO hg c1) (cwV 2 C.2.2.2.2.1 gv7_146 rfl rfl rfl hd_X7_tests ⟨Nat.le_of_ble_eq_true rfl, Nat.le_of_ble_eq_true rfl⟩) rfl rfl (Nat.le_of_ble_eq_true rfl) dX7_certifies_8 ⟨Nat.zero_le _, Nat.zero_le _⟩ ?_
  refine z_aload_n C dX7_certifies_11 rfl ?_
  refine z_gI C (ci := 7) (k := 9) rfl (by decide) rfl (by decide) wl_7 wq_19_1 rfl dX7_certifies_12 (by assumption) ?_
  rw [tstM_9, show grt (tstW (I (o + 1)) (I (o + 1) (20 + 36 * g)) (I (o + 1) (21 + 36 * g)) (I (o + 1) (22 + 36 * g))) (2 * (I (o + 1) 3).toNat) = gTst (I (o + 1)) g (I (o + 1) (20 + 36 * g)) from rfl]
  refine z_aload_n C dX7_certifies_15 rfl ?_
  refine z_gR C (ci := 7) (k := 0) rfl (by decide) rfl (by decide) wl_7 wq_4_3 (by decide) dX7_certifies_16 (by assumption) (by assumption) ?_
  refine z_iconst C dX7_certifies_19 ?_
  refine z_ialdk C (2) dX7_certifies_20 (by assumption) (by first | rfl | omega) (by omega) (by omega) ?_
  rw [tstM_r _ _ _ _ _ _ _ (by omega) (by omega) (by omega)]
  refine z_icmp_gt C (tgt := 112) dX7_certifies_21 (by decide) (by first | omega | exact b2i_r) (by first | omega | exact b2i_r) (fun h21 => ?_) (fun h21 => ?_)
  · refine z_aload_n C dX7_certifies_112 rfl ?_
    refine z_gI C (ci := 7) (k := 9) rfl (by decide) rfl (by decide) wl_7 wq_19_1 rfl dX7_certifies_113 (by assumption) ?_
    first | rw [va_up_n (by omega), tstM_9] | rw [tstM_9]
    exact z_iret2 C hQ rfl dX7_certifies_116 ⟨rfl, rfl, rfl, rfl, by
      unfold certG
      first
      | (rw [if_pos h0]; rw [show k = 28 by omega]; done)
      | (rw [if_neg (by omega)]; exact (va_upE (tstM_r _ _ _ _ _ _ _ (by omega) (by omega) (by omega))).symm), rfl⟩
  · refine z_aload_n C dX7_certifies_24 rfl ?_
    refine z_iload_n C dX7_certifies_25 rfl ?_
    refine z_iconst C dX7_certifies_26 ?_
    refine z_iconst C dX7_certifies_27 ?_
    refine z_callVd C (ci := 7) rfl (by decide) (by first | assumption | exact hM.1) (mX7_setPart l G hM (by omega) (by omega)) (cwV 3 C.2.2.2.2.1 gv7_74 rfl rfl rfl hd_X7_setPart ⟨Nat.le_of_ble_eq_true rfl, Nat.le_of_ble_eq_true rfl⟩) rfl rfl (Nat.le_of_ble_eq_true rfl) dX7_certifies_28 ⟨Nat.zero_le _, Nat.zero_le _⟩ ?_
    rw [u2_st, show (20 + 36 * (g : Int) + 4).toNat = 24 + 36 * g by omega, tstM_r _ _ _ _ _ _ _ (by omega) (by omega) (by omega)]
    refine z_aload_n C dX7_certifies_31 rfl ?_
    refine z_iload_n C dX7_certifies_32 rfl ?_
    refine z_iconst C dX7_certifies_33 ?_
    refine z_aload_n C dX7_certifies_34 rfl ?_
    refine z_gI C (ci := 7) (k := 9) rfl (by decide) rfl (by decide) wl_7 wq_19_1 rfl dX7_certifies_35 (by assumption) ?_
    rw [va_up_n (by omega), tstM_9]
    refine z_callVd C (ci := 7) rfl (by decide) (by first | assumption | exact hM.1) (mX7_setPart l G hM (by omega) (by omega)) (cwV 3 C.2.2.2.2.1 gv7_74 rfl rfl rfl hd_X7_setPart ⟨Nat.le_of_ble_eq_true rfl, Nat.le_of_ble_eq_true rfl⟩) rfl rfl (Nat.le_of_ble_eq_true rfl) dX7_certifies_38 ⟨Nat.zero_le _, Nat.zero_le _⟩ ?_
    rw [u2_vst, show (20 + 36 * (g : Int) + 5).toNat = 25 + 36 * g by omega]
    refine z_aload_n C dX7_certifies_41 rfl ?_
    refine z_iload_n C dX7_certifies_42 rfl ?_
    refine z_bipush C dX7_certifies_43 (by decide) ?_
    refine z_aload_n C dX7_certifies_45 rfl ?_
    refine z_gR C (ci := 7) (k := 0) rfl (by decide) rfl (by decide) wl_7 wq_4_3 (by decide) dX7_certifies_46 (by assumption) (by assumption) ?_
    refine z_iconst C dX7_certifies_49 ?_
    refine z_ialdk C (0) dX7_certifies_50 (by assumption) (by first | rfl | omega) (by omega) (by omega) ?_
    rw [va_up_s, st1_n (by omega), st1_n (by omega)]
    refine z_callVd C (ci := 7) rfl (by decide) (by first | assumption | exact hM.1) (mX7_setPart l G hM (by omega) (by omega)) (cwV 3 C.2.2.2.2.1 gv7_74 rfl rfl rfl hd_X7_setPart ⟨Nat.le_of_ble_eq_true rfl, Nat.le_of_ble_eq_true rfl⟩) rfl rfl (Nat.le_of_ble_eq_true rfl) dX7_certifies_51 ⟨Nat.zero_le _, Nat.zero_le _⟩ ?_
    rw [u2_vst, show (20 + 36 * (g : Int) + 6).toNat = 26 + 36 * g by omega]
    refine z_aload_n C dX7_certifies_54 rfl ?_
    refine z_iload_n C dX7_certifies_55 rfl ?_
    refine z_bipush C dX7_certifies_56 (by decide) ?_
    refine z_aload_n C dX7_certifies_58 rfl ?_
    refine z_gR C (ci := 7) (k := 0) rfl (by decide) rfl (by decide) wl_7 wq_4_3 (by decide) dX7_certifies_59 (by assumption) (by assumption) ?_
    refine z_iconst C dX7_certifies_62 ?_
    refine z_ialdk C (1) dX7_certifies_63 (by assumption) (by first | rfl | omega) (by omega) (by omega) ?_
    rw [va_up_s, st1_n (by omega), st1_n (by omega), st1_n (by omega)]
    refine z_callVd C (ci := 7) rfl (by decide) (by first | assumption | exact hM.1) (mX7_setPart l G hM (by omega) (by omega)) (cwV 3 C.2.2.2.2.1 gv7_74 rfl rfl rfl hd_X7_setPart ⟨Nat.le_of_ble_eq_true rfl, Nat.le_of_ble_eq_true rfl⟩) rfl rfl (Nat.le_of_ble_eq_true rfl) dX7_certifies_64 ⟨Nat.zero_le _, Nat.zero_le _⟩ ?_
    rw [u2_vst, show (20 + 36 * (g : Int) + 7).toNat = 27 + 36 * g by omega]
    refine z_iconst C dX7_certifies_67 ?_
    refine z_istore_n C dX7_certifies_68 (by decide) rfl ?_
    refine z_mem (I' := va_up (tstM I o (I (o + 1) (20 + 36 * g)) (I (o + 1) (21 + 36 * g)) (I (o + 1) (22 + 36 * g)) (2 * (I (o + 1) 3).toNat)) (o + 1) (certK (I (o + 1)) g 0)) ?_ rfl (hloop 29 0 (by omega) (by omega) (by omega))
    congr 1
    funext j
    exact (if_neg (by omega)).symm

set_option maxHeartbeats 4000000 in
set_option maxRecDepth 100000 in
theorem mX7_certify (l : Launch) (G : GG) {z : Nat} {K N : Nat → Nat} {I : MI} {R : MR} {o : Nat} (hM : ShM G z K N R o) (hO : Ok (I (o + 1))) (hR : 0 ≤ I o 2 ∧ I o 2 ≤ 6) {gg : Int} (hgg : -2147483648 ≤ gg ∧ gg < 2147483648) : Cod l G yX7_certify (Cond.code yX7_certify cX7_certify 3 (some .int) :: wsL_law) ⟨6, 0, 0, 137⟩ [.ref o, .int (zI gg)] z K N I R (some (.int (zI (if 0 ≤ gg ∧ gg ≤ I (o + 1) 5 - 1 then (if I (o + 1) 3 = 0 then -5 else gTst (I (o + 1)) gg.toNat (I (o + 1) (20 + 36 * gg.toNat))) else -1)))) (if (0 ≤ gg ∧ gg ≤ I (o + 1) 5 - 1) ∧ ¬ I (o + 1) 3 = 0 then va_up (tstM (recM I o) o (I (o + 1) (20 + 36 * gg.toNat)) (I (o + 1) (21 + 36 * gg.toNat)) (I (o + 1) (22 + 36 * gg.toNat)) (2 * (I (o + 1) 3).toNat)) (o + 1) (certG (I (o + 1)) gg.toNat) else I) R := by
  refine Con.of (own := RX7) (cc := cX7_certify) (maxL := 3) (ret := (some .int)) (by decide +kernel) rfl rfl (Nat.le_of_ble_eq_true rfl) (by decide) rfl ?_
  intro p e9 s mt args below meth c Q hin hQ C
  have h5 := hO.2.2.2.2.2.1
  have h3 := hO.2.2.2.1
  refine z_aload_n C dX7_certify_0 rfl ?_
  refine z_iload_n C dX7_certify_1 rfl ?_
  refine z_callVd C (ci := 7) rfl (by decide) (by first | assumption | exact hM.1) (mX7_whyNotCertified l G hM hO hgg) (cwV 1 C.2.2.2.2.1 gv7_150 rfl rfl rfl hd_X7_whyNotCertified ⟨Nat.le_of_ble_eq_true rfl, Nat.le_of_ble_eq_true rfl⟩) rfl rfl (Nat.le_of_ble_eq_true rfl) dX7_certify_2 ⟨Nat.zero_le _, Nat.zero_le _⟩ ?_
  obtain ⟨w, hw, hw2⟩ : ∃ w : Int, w = (if 0 ≤ gg ∧ gg ≤ I (o + 1) 5 - 1 then (if I (o + 1) 3 = 0 then -5 else 0) else -1) ∧ ((w = -1 ∧ ¬ (0 ≤ gg ∧ gg ≤ I (o + 1) 5 - 1)) ∨ (w = -5 ∧ (0 ≤ gg ∧ gg ≤ I (o + 1) 5 - 1) ∧ I (o + 1) 3 = 0) ∨ (w = 0 ∧ (0 ≤ gg ∧ gg ≤ I (o + 1) 5 - 1) ∧ ¬ I (o + 1) 3 = 0)) := ⟨_, rfl, (by (repeat' split) <;> omega)⟩
  rw [← hw]
  refine z_istore_n C dX7_certify_5 (by decide) rfl ?_
  refine z_iload_n C dX7_certify_6 rfl ?_
  refine z_if_ge C (tgt := 12) dX7_certify_7 (by decide) (by first | omega | exact b2i_r) (fun h7 => ?_) (fun h7 => ?_)
  · have hb : (0 ≤ gg ∧ gg ≤ I (o + 1) 5 - 1) ∧ ¬ I (o + 1) 3 = 0 := by omega
    obtain ⟨n9, rfl⟩ := Int.eq_ofNat_of_zero_le (show 0 ≤ gg by omega)
    refine z_aload_n C dX7_certify_12 rfl ?_
    refine z_callVd C (ci := 7) rfl (by decide) (by first | assumption | exact hM.1) (mX7_record l G hM hR) (cwV 0 C.2.2.2.2.1 gv7_107 rfl rfl rfl hd_X7_record ⟨Nat.le_of_ble_eq_true rfl, Nat.le_of_ble_eq_true rfl⟩) rfl rfl (Nat.le_of_ble_eq_true rfl) dX7_certify_13 ⟨Nat.zero_le _, Nat.zero_le _⟩ ?_
    refine z_aload_n C dX7_certify_16 rfl ?_
    refine z_iload_n C dX7_certify_17 rfl ?_
    refine z_callVd C (ci := 7) rfl (by decide) (by first | assumption | exact hM.1) (mX7_certifies l G hM (by rw [recM_1]; exact hO) (g := n9) (by rw [recM_1]; omega) (by rw [recM_1]; omega)) (cwV 1 C.2.2.2.2.1 gv7_153 rfl rfl rfl hd_X7_certifies ⟨Nat.le_of_ble_eq_true rfl, Nat.le_of_ble_eq_true rfl⟩) rfl rfl (Nat.le_of_ble_eq_true rfl) dX7_certify_18 ⟨Nat.zero_le _, Nat.zero_le _⟩ ?_
    rw [recM_1]
    exact z_iret2 C hQ rfl dX7_certify_21 ⟨zr (by first | exact ((if_pos hb.1).trans (if_neg hb.2)).symm | ((repeat' split) <;> omega)), rfl, rfl, rfl, by first | exact (if_pos hb).symm | rw [if_neg (by omega)], rfl⟩
  · refine z_iload_n C dX7_certify_10 rfl ?_
    exact z_iret2 C hQ rfl dX7_certify_11 ⟨zr (by first | exact ((if_pos hb.1).trans (if_neg hb.2)).symm | ((repeat' split) <;> omega)), rfl, rfl, rfl, by first | exact (if_pos hb).symm | rw [if_neg (by omega)], rfl⟩

set_option maxHeartbeats 4000000 in
set_option maxRecDepth 100000 in
theorem mX7_placeOf (l : Launch) (G : GG) {z : Nat} {K N : Nat → Nat} {I : MI} {R : MR} {o : Nat} (hM : ShM G z K N R o) (hO : Ok (I (o + 1))) {rg : Nat} (hr : (rg : Int) < I (o + 1) 3) : Cod l G yX7_placeOf (Cond.code yX7_placeOf cX7_placeOf 4 (some .int) :: wsL_law) ⟨1, 0, 0, 22⟩ [.ref o, .int (zI (rg : Int))] z K N I R (some (.int (zI (plcA (I (o + 1)) rg)))) (va_up I (o + 6) (rowO (fun j => I (o + 1) (6 + j)) (I (o + 1) 3).toNat (I (o + 6)))) R := by
  refine Con.of (own := RX7) (cc := cX7_placeOf) (maxL := 4) (ret := (some .int)) (by decide +kernel) rfl rfl (Nat.le_of_ble_eq_true rfl) (by decide) rfl ?_
  intro p e9 s mt args below meth c Q hin hQ C
  obtain ⟨ho, ⟨r0, r1, r3, r4, r5, r7, r8⟩, ⟨k1, k2, k3, k4, k5, k6, k7⟩, n1, n2, n3, n4, n5, n6, n7⟩ := id hM
  have h3 := hO.2.2.2.1
  have hloop : ∀ (n : Nat) (k : Nat), (k : Int) ≤ I (o + 1) 3 → I (o + 1) 3 - k < n → Zq p l e9 ⟨1, 0, 0, 22⟩ s mt args below meth c G 4 Q 0 0 z K N (va_up I (o + 6) (rowO (fun j => I (o + 1) (6 + j)) (I (o + 1) 3).toNat (I (o + 6)))) R 9 [(0, .ref o), (1, .int (zI (rg : Int))), (2, .int (zI (plcK (fun j => I (o + 1) (6 + j)) (I (o + 1) 3).toNat rg k))), (3, .int (zI (k : Int)))] [] := by
    intro n
    induction n with
    | zero => intro k h1 h2; exact absurd h2 (by omega)
    | succ n ih =>
      intro k h1 h2
      refine z_iload_n C dX7_placeOf_9 rfl ?_
      refine z_aload_n C dX7_placeOf_10 rfl ?_
      refine z_gR C (ci := 7) (k := 0) rfl (by decide) rfl (by decide) wl_7 wq_4_3 (by decide) dX7_placeOf_11 (by assumption) (by assumption) ?_
      refine z_iconst C dX7_placeOf_14 ?_
      refine z_ialdk C (3) dX7_placeOf_15 (by assumption) (by first | rfl | omega) (by omega) (by omega) ?_
      rw [va_up_n (by omega)]
      refine z_icmp_ge C (tgt := 41) dX7_placeOf_16 (by decide) (by first | omega | exact b2i_r) (by first | omega | exact b2i_r) (fun h16 => ?_) (fun h16 => ?_)
      · refine z_iload_n C dX7_placeOf_41 rfl ?_
        exact z_iret2 C hQ rfl dX7_placeOf_42 ⟨zr (by unfold plcA; rw [show k = (I (o + 1) 3).toNat by omega]), rfl, rfl, rfl, rfl, rfl⟩
      · refine z_aload_n C dX7_placeOf_19 rfl ?_
        refine z_gR C (ci := 7) (k := 7) rfl (by decide) rfl (by decide) wl_7 wq_4_8 (by decide) dX7_placeOf_20 (by assumption) (by assumption) ?_
        refine z_iload_n C dX7_placeOf_23 rfl ?_
        refine z_ialdk C (k) dX7_placeOf_24 (by assumption) (by first | rfl | omega) (by omega) (by omega) ?_
        rw [va_up_s, show rowO (fun j => I (o + 1) (6 + j)) (I (o + 1) 3).toNat (I (o + 6)) k = (ordC (fun j => I (o + 1) (6 + j)) (I (o + 1) 3).toNat k : Int) from if_pos (by omega)]
        have hlt := ordC_lt (fun j => I (o + 1) (6 + j)) (I (o + 1) 3).toNat k (by omega)
        refine z_iload_n C dX7_placeOf_25 rfl ?_
        refine z_icmp_ne C (tgt := 33) dX7_placeOf_26 (by decide) (by first | omega | exact b2i_r) (by first | omega | exact b2i_r) (fun h26 => ?_) (fun h26 => ?_)
        · refine z_iload_n C dX7_placeOf_33 rfl ?_
          refine z_top (y := .int (zI (plcK (fun j => I (o + 1) (6 + j)) (I (o + 1) 3).toNat rg (k + 1)))) (congrArg (fun x => Value.int (zI x)) (by simp only [plcK]; first | rw [if_pos (by omega)] | rw [if_neg (by omega)])) ?_
          refine z_istore_n C dX7_placeOf_34 (by decide) rfl ?_
          refine z_iinc C dX7_placeOf_35 rfl (by decide) rfl ?_
          refine z_goto C (tgt := 9) dX7_placeOf_38 (by decide) ?_
          exact z_conv rfl rfl (by first | rfl | (show _ = _; simp only [plcK]; first | rw [if_pos (by omega)] | rw [if_neg (by omega)]; rfl)) rfl (ih (k + 1) (by omega) (by omega))
        · refine z_iload_n C dX7_placeOf_29 rfl ?_
          refine z_goto C (tgt := 34) dX7_placeOf_30 (by decide) ?_
          refine z_top (y := .int (zI (plcK (fun j => I (o + 1) (6 + j)) (I (o + 1) 3).toNat rg (k + 1)))) (congrArg (fun x => Value.int (zI x)) (by simp only [plcK]; first | rw [if_pos (by omega)] | rw [if_neg (by omega)])) ?_
          refine z_istore_n C dX7_placeOf_34 (by decide) rfl ?_
          refine z_iinc C dX7_placeOf_35 rfl (by decide) rfl ?_
          refine z_goto C (tgt := 9) dX7_placeOf_38 (by decide) ?_
          exact z_conv rfl rfl (by first | rfl | (show _ = _; simp only [plcK]; first | rw [if_pos (by omega)] | rw [if_neg (by omega)]; rfl)) rfl (ih (k + 1) (by omega) (by omega))
  refine z_aload_n C dX7_placeOf_0 rfl ?_
  refine z_callVd C (ci := 7) rfl (by decide) (by first | assumption | exact hM.1) (mX7_findOrder l G hM hO) (cwV 0 C.2.2.2.2.1 gv7_91 rfl rfl rfl hd_X7_findOrder ⟨Nat.le_of_ble_eq_true rfl, Nat.le_of_ble_eq_true rfl⟩) rfl rfl (Nat.le_of_ble_eq_true rfl) dX7_placeOf_1 ⟨Nat.zero_le _, Nat.zero_le _⟩ ?_
  refine z_bipush C dX7_placeOf_4 (by decide) ?_
  refine z_istore_n C dX7_placeOf_6 (by decide) rfl ?_
  refine z_iconst C dX7_placeOf_7 ?_
  refine z_istore_n C dX7_placeOf_8 (by decide) rfl ?_
  exact hloop 15 0 (by omega) (by omega)

set_option maxHeartbeats 4000000 in
set_option maxRecDepth 100000 in
theorem mX7_ofRing (l : Launch) (G : GG) {z : Nat} {K N : Nat → Nat} {I : MI} {R : MR} {o : Nat} (hM : ShM G z K N R o) (hO : Ok (I (o + 1))) {rg wh : Int} (hrg : -2147483648 ≤ rg ∧ rg < 2147483648) (hwh : -2147483648 ≤ wh ∧ wh < 2147483648) : Cod l G yX7_ofRing (Cond.code yX7_ofRing cX7_ofRing 3 (some .int) :: wsL_law) ⟨2, 0, 0, 45⟩ [.ref o, .int (zI rg), .int (zI wh)] z K N I R (some (.int (zI (if 0 ≤ rg ∧ rg ≤ I (o + 1) 3 - 1 then (if wh = 0 then I (o + 1) (6 + rg.toNat) else if wh = 1 then I (o + 1) 4 / 2 ^ rg.toNat % 2 else if wh = 2 then plcA (I (o + 1)) rg.toNat else -2) else -1)))) (if (0 ≤ rg ∧ rg ≤ I (o + 1) 3 - 1) ∧ wh = 2 then va_up I (o + 6) (rowO (fun j => I (o + 1) (6 + j)) (I (o + 1) 3).toNat (I (o + 6))) else I) R := by
  refine Con.of (own := RX7) (cc := cX7_ofRing) (maxL := 3) (ret := (some .int)) (by decide +kernel) rfl rfl (Nat.le_of_ble_eq_true rfl) (by decide) rfl ?_
  intro p e9 s mt args below meth c Q hin hQ C
  obtain ⟨ho, ⟨r0, r1, r3, r4, r5, r7, r8⟩, ⟨k1, k2, k3, k4, k5, k6, k7⟩, n1, n2, n3, n4, n5, n6, n7⟩ := id hM
  have h3 := hO.2.2.2.1
  refine z_aload_n C dX7_ofRing_0 rfl ?_
  refine z_iload_n C dX7_ofRing_1 rfl ?_
  refine z_callVd C (ci := 7) rfl (by decide) (by first | assumption | exact hM.1) (mX7_isRing l G hM hO hrg) (cwV 1 C.2.2.2.2.1 gv7_119 rfl rfl rfl hd_X7_isRing ⟨Nat.le_of_ble_eq_true rfl, Nat.le_of_ble_eq_true rfl⟩) rfl rfl (Nat.le_of_ble_eq_true rfl) dX7_ofRing_2 ⟨Nat.zero_le _, Nat.zero_le _⟩ ?_
  refine z_if_ne C (tgt := 10) dX7_ofRing_5 (by decide) (by first | omega | exact b2i_r) (fun h5 => ?_) (fun h5 => ?_)
  · have hb := b2i_1.mp h5
    obtain ⟨n9, rfl⟩ := Int.eq_ofNat_of_zero_le (show 0 ≤ rg by omega)
    refine z_iload_n C dX7_ofRing_10 rfl ?_
    by_cases hs11 : wh < 0 ∨ 2 < wh
    · refine z_tout C (tgt := 66) dX7_ofRing_11 (by omega) hs11 (by decide) ?_
      refine z_bipush C dX7_ofRing_66 (by decide) ?_
      exact z_iret2 C hQ rfl dX7_ofRing_68 ⟨zr (by first | exact (if_neg hn).symm | (refine ((if_pos hb).trans ?_).symm; first | (subst hv; rfl) | (subst hv; show I (o + 1) 4 / 2 ^ n9 % 2 = _; omega) | ((repeat' split) <;> omega))), rfl, rfl, rfl, by first | exact (if_pos ⟨hb, hv⟩).symm | rw [if_neg (by omega)], rfl⟩
    · rcases (show wh = 0 ∨ wh = 1 ∨ wh = 2 by omega) with hv | hv | hv
      · refine z_tin C (tgt := 36) 0 dX7_ofRing_11 hv (by decide) (by decide) (by decide) rfl (by decide) ?_
        refine z_aload_n C dX7_ofRing_36 rfl ?_
        refine z_gR C (ci := 7) (k := 0) rfl (by decide) rfl (by decide) wl_7 wq_4_3 (by decide) dX7_ofRing_37 (by assumption) (by assumption) ?_
        refine z_bipush C dX7_ofRing_40 (by decide) ?_
        refine z_iload_n C dX7_ofRing_42 rfl ?_
        refine z_iadd C dX7_ofRing_43 ?_
        refine z_ialdk C (6 + n9) dX7_ofRing_44 (by assumption) (by first | rfl | omega) (by omega) (by omega) ?_
        exact z_iret2 C hQ rfl dX7_ofRing_45 ⟨zr (by first | exact (if_neg hn).symm | (refine ((if_pos hb).trans ?_).symm; first | (subst hv; rfl) | (subst hv; show I (o + 1) 4 / 2 ^ n9 % 2 = _; omega) | ((repeat' split) <;> omega))), rfl, rfl, rfl, by first | exact (if_pos ⟨hb, hv⟩).symm | rw [if_neg (by omega)], rfl⟩
      · refine z_tin C (tgt := 46) 1 dX7_ofRing_11 hv (by decide) (by decide) (by decide) rfl (by decide) ?_
        refine z_aload_n C dX7_ofRing_46 rfl ?_
        refine z_iload_n C dX7_ofRing_47 rfl ?_
        refine z_callVd C (ci := 7) rfl (by decide) (by first | assumption | exact hM.1) (mX7_isStacked l G hM hO (by omega)) (cwV 1 C.2.2.2.2.1 gv7_123 rfl rfl rfl hd_X7_isStacked ⟨Nat.le_of_ble_eq_true rfl, Nat.le_of_ble_eq_true rfl⟩) rfl rfl (Nat.le_of_ble_eq_true rfl) dX7_ofRing_48 ⟨Nat.zero_le _, Nat.zero_le _⟩ ?_
        refine z_if_eq C (tgt := 58) dX7_ofRing_51 (by decide) (by first | omega | exact b2i_r) (fun h51 => ?_) (fun h51 => ?_)
        · refine z_iconst C dX7_ofRing_58 ?_
          exact z_iret2 C hQ rfl dX7_ofRing_59 ⟨zr (by first | exact (if_neg hn).symm | (refine ((if_pos hb).trans ?_).symm; first | (subst hv; rfl) | (subst hv; show I (o + 1) 4 / 2 ^ n9 % 2 = _; omega) | ((repeat' split) <;> omega))), rfl, rfl, rfl, by first | exact (if_pos ⟨hb, hv⟩).symm | rw [if_neg (by omega)], rfl⟩
        · refine z_iconst C dX7_ofRing_54 ?_
          refine z_goto C (tgt := 59) dX7_ofRing_55 (by decide) ?_
          exact z_iret2 C hQ rfl dX7_ofRing_59 ⟨zr (by first | exact (if_neg hn).symm | (refine ((if_pos hb).trans ?_).symm; first | (subst hv; rfl) | (subst hv; show I (o + 1) 4 / 2 ^ n9 % 2 = _; omega) | ((repeat' split) <;> omega))), rfl, rfl, rfl, by first | exact (if_pos ⟨hb, hv⟩).symm | rw [if_neg (by omega)], rfl⟩
      · refine z_tin C (tgt := 60) 2 dX7_ofRing_11 hv (by decide) (by decide) (by decide) rfl (by decide) ?_
        refine z_aload_n C dX7_ofRing_60 rfl ?_
        refine z_iload_n C dX7_ofRing_61 rfl ?_
        refine z_callVd C (ci := 7) rfl (by decide) (by first | assumption | exact hM.1) (mX7_placeOf l G hM hO (by omega)) (cwV 1 C.2.2.2.2.1 gv7_156 rfl rfl rfl hd_X7_placeOf ⟨Nat.le_of_ble_eq_true rfl, Nat.le_of_ble_eq_true rfl⟩) rfl rfl (Nat.le_of_ble_eq_true rfl) dX7_ofRing_62 ⟨Nat.zero_le _, Nat.zero_le _⟩ ?_
        exact z_iret2 C hQ rfl dX7_ofRing_65 ⟨zr (by first | exact (if_neg hn).symm | (refine ((if_pos hb).trans ?_).symm; first | (subst hv; rfl) | (subst hv; show I (o + 1) 4 / 2 ^ n9 % 2 = _; omega) | ((repeat' split) <;> omega))), rfl, rfl, rfl, by first | exact (if_pos ⟨hb, hv⟩).symm | rw [if_neg (by omega)], rfl⟩
  · have hn := b2i_0.mp h5
    refine z_iconst C dX7_ofRing_8 ?_
    exact z_iret2 C hQ rfl dX7_ofRing_9 ⟨zr (by first | exact (if_neg hn).symm | (refine ((if_pos hb).trans ?_).symm; first | (subst hv; rfl) | (subst hv; show I (o + 1) 4 / 2 ^ n9 % 2 = _; omega) | ((repeat' split) <;> omega))), rfl, rfl, rfl, by first | exact (if_pos ⟨hb, hv⟩).symm | rw [if_neg (by omega)], rfl⟩

set_option maxHeartbeats 4000000 in
set_option maxRecDepth 100000 in
theorem mX7_test (l : Launch) (G : GG) {z : Nat} {K N : Nat → Nat} {I : MI} {R : MR} {o : Nat} (hM : ShM G z K N R o) (hO : Ok (I (o + 1))) {gg wh : Int} (hgg : -2147483648 ≤ gg ∧ gg < 2147483648) (hwh : -2147483648 ≤ wh ∧ wh < 2147483648) : Cod l G yX7_test (Cond.code yX7_test cX7_test 3 (some .int) :: wsL_law) ⟨5, 0, 0, 115⟩ [.ref o, .int (zI gg), .int (zI wh)] z K N I R (some (.int (zI (if 0 ≤ gg ∧ gg ≤ I (o + 1) 5 - 1 then (if 0 ≤ wh ∧ wh ≤ 3 then (if I (o + 1) 3 = 0 then -5 else (if wh = 0 then gTst (I (o + 1)) gg.toNat (I (o + 1) (20 + 36 * gg.toNat)) else if wh = 1 then b2i (gTst (I (o + 1)) gg.toNat (I (o + 1) (20 + 36 * gg.toNat)) ≤ I (o + 1) 2) else if wh = 2 then wTst (I (o + 1)) gg.toNat (I (o + 1) (20 + 36 * gg.toNat)) else 2 * I (o + 1) 3)) else -2) else -1)))) (if (0 ≤ gg ∧ gg ≤ I (o + 1) 5 - 1) ∧ (0 ≤ wh ∧ wh ≤ 3) ∧ ¬ I (o + 1) 3 = 0 then (tstM I o (I (o + 1) (20 + 36 * gg.toNat)) (I (o + 1) (21 + 36 * gg.toNat)) (I (o + 1) (22 + 36 * gg.toNat)) (2 * (I (o + 1) 3).toNat)) else I) R := by
  refine Con.of (own := RX7) (cc := cX7_test) (maxL := 3) (ret := (some .int)) (by decide +kernel) rfl rfl (Nat.le_of_ble_eq_true rfl) (by decide) rfl ?_
  intro p e9 s mt args below meth c Q hin hQ C
  obtain ⟨ho, ⟨r0, r1, r3, r4, r5, r7, r8⟩, ⟨k1, k2, k3, k4, k5, k6, k7⟩, n1, n2, n3, n4, n5, n6, n7⟩ := id hM
  have h5 := hO.2.2.2.2.2.1
  have h3 := hO.2.2.2.1
  have h2 := hO.2.2.1
  refine z_aload_n C dX7_test_0 rfl ?_
  refine z_iload_n C dX7_test_1 rfl ?_
  refine z_callVd C (ci := 7) rfl (by decide) (by first | assumption | exact hM.1) (mX7_isGauge l G hM hO hgg) (cwV 1 C.2.2.2.2.1 gv7_143 rfl rfl rfl hd_X7_isGauge ⟨Nat.le_of_ble_eq_true rfl, Nat.le_of_ble_eq_true rfl⟩) rfl rfl (Nat.le_of_ble_eq_true rfl) dX7_test_2 ⟨Nat.zero_le _, Nat.zero_le _⟩ ?_
  refine z_if_ne C (tgt := 10) dX7_test_5 (by decide) (by first | omega | exact b2i_r) (fun h5 => ?_) (fun h5 => ?_)
  · have hb1 := b2i_1.mp h5
    refine z_iload_n C dX7_test_10 rfl ?_
    refine z_iconst C dX7_test_11 ?_
    refine z_iconst C dX7_test_12 ?_
    refine z_callSd C (mX7_within l G (by omega) (by omega) (by omega)) (va_cwS 3 C.2.2.2.2.1 gv7_39 rfl rfl rfl hs_X7_within ⟨Nat.le_of_ble_eq_true rfl, Nat.le_of_ble_eq_true rfl⟩) rfl rfl (Nat.le_of_ble_eq_true rfl) dX7_test_13 ⟨Nat.zero_le _, Nat.zero_le _⟩ ?_
    refine z_if_ne C (tgt := 22) dX7_test_16 (by decide) (by first | omega | exact b2i_r) (fun h16 => ?_) (fun h16 => ?_)
    · have hb2 := b2i_1.mp h16
      refine z_aload_n C dX7_test_22 rfl ?_
      refine z_gR C (ci := 7) (k := 0) rfl (by decide) rfl (by decide) wl_7 wq_4_3 (by decide) dX7_test_23 (by assumption) (by assumption) ?_
      refine z_iconst C dX7_test_26 ?_
      refine z_ialdk C (3) dX7_test_27 (by assumption) (by first | rfl | omega) (by omega) (by omega) ?_
      refine z_if_ne C (tgt := 34) dX7_test_28 (by decide) (by first | omega | exact b2i_r) (fun h28 => ?_) (fun h28 => ?_)
      · obtain ⟨n9, rfl⟩ := Int.eq_ofNat_of_zero_le (show 0 ≤ gg by omega)
        simp only [Int.toNat_natCast] at hQ
        obtain ⟨c1, c2, c3, c4, c5⟩ := hO.2.2.2.2.2.2.2 n9 (by omega)
        have hgt := gTst_rng hO (by omega) (g := n9) (by omega) c1
        have hrr : ∀ {x y : Int}, x = y → x = (if 0 ≤ (n9 : Int) ∧ (n9 : Int) ≤ I (o + 1) 5 - 1 then (if 0 ≤ wh ∧ wh ≤ 3 then (if I (o + 1) 3 = 0 then -5 else y) else -2) else -1) := fun e => by rw [if_pos hb1, if_pos hb2, if_neg h28]; exact e
        refine z_aload_n C dX7_test_34 rfl ?_
        refine z_iload_n C dX7_test_35 rfl ?_
        refine z_aload_n C dX7_test_36 rfl ?_
        refine z_iload_n C dX7_test_37 rfl ?_
        refine z_iconst C dX7_test_38 ?_
        refine z_callVd C (ci := 7) rfl (by decide) (by first | assumption | exact hM.1) (mX7_part l G hM (by omega) (by omega)) (cwV 2 C.2.2.2.2.1 gv7_64 rfl rfl rfl hd_X7_part ⟨Nat.le_of_ble_eq_true rfl, Nat.le_of_ble_eq_true rfl⟩) rfl rfl (Nat.le_of_ble_eq_true rfl) dX7_test_39 ⟨Nat.zero_le _, Nat.zero_le _⟩ ?_
        rw [show (20 + 36 * (n9 : Int) + 0).toNat = 20 + 36 * n9 by omega]
        refine z_callVd C (ci := 7) rfl (by decide) (by first | assumption | exact hM.1) (mX7_tests l G hM hO (g := n9) (by omega) c1) (cwV 2 C.2.2.2.2.1 gv7_146 rfl rfl rfl hd_X7_tests ⟨Nat.le_of_ble_eq_true rfl, Nat.le_of_ble_eq_true rfl⟩) rfl rfl (Nat.le_of_ble_eq_true rfl) dX7_test_42 ⟨Nat.zero_le _, Nat.zero_le _⟩ ?_
        refine z_iload_n C dX7_test_45 rfl ?_
        refine z_if_ne C (tgt := 56) dX7_test_46 (by decide) (by first | omega | exact b2i_r) (fun h46 => ?_) (fun h46 => ?_)
        · refine z_iload_n C dX7_test_56 rfl ?_
          refine z_iconst C dX7_test_57 ?_
          refine z_icmp_ne C (tgt := 82) dX7_test_58 (by decide) (by first | omega | exact b2i_r) (by first | omega | exact b2i_r) (fun h58 => ?_) (fun h58 => ?_)
          · refine z_iload_n C dX7_test_82 rfl ?_
            refine z_iconst C dX7_test_83 ?_
            refine z_icmp_ne C (tgt := 94) dX7_test_84 (by decide) (by first | omega | exact b2i_r) (by first | omega | exact b2i_r) (fun h84 => ?_) (fun h84 => ?_)
            · refine z_iconst C dX7_test_94 ?_
              refine z_aload_n C dX7_test_95 rfl ?_
              refine z_gR C (ci := 7) (k := 0) rfl (by decide) rfl (by decide) wl_7 wq_4_3 (by decide) dX7_test_96 (by assumption) (by assumption) ?_
              refine z_iconst C dX7_test_99 ?_
              refine z_ialdk C (3) dX7_test_100 (by assumption) (by first | rfl | omega) (by omega) (by omega) ?_
              rw [tstM_r _ _ _ _ _ _ _ (by omega) (by omega) (by omega)]
              refine z_imul C dX7_test_101 ?_
              exact z_iret2 C hQ rfl dX7_test_102 ⟨zr (by first | exact (if_neg n1).symm | exact ((if_pos hb1).trans (if_neg n2)).symm | exact ((if_pos hb1).trans ((if_pos hb2).trans (if_pos h28))).symm | exact hrr (by show _ = _; first | (rw [if_pos (by omega)]; done) | (rw [if_neg (by omega), if_pos (by omega)]; first | exact (b2i_t (by omega)).symm | exact (b2i_f (by omega)).symm) | (rw [if_neg (by omega), if_neg (by omega), if_pos (by omega)]; rfl) | (rw [if_neg (by omega), if_neg (by omega), if_neg (by omega)]))), rfl, rfl, rfl, by first | exact (if_pos ⟨hb1, hb2, h28⟩).symm | exact (if_neg (fun z => n1 z.1)).symm | exact (if_neg (fun z => n2 z.2.1)).symm | exact (if_neg (fun z => z.2.2 h28)).symm, rfl⟩
            · refine z_aload_n C dX7_test_87 rfl ?_
              refine z_gI C (ci := 7) (k := 10) rfl (by decide) rfl (by decide) wl_7 wq_19_6 rfl dX7_test_88 (by assumption) ?_
              rw [tstM_10]
              refine z_goto C (tgt := 102) dX7_test_91 (by decide) ?_
              exact z_iret2 C hQ rfl dX7_test_102 ⟨zr (by first | exact (if_neg n1).symm | exact ((if_pos hb1).trans (if_neg n2)).symm | exact ((if_pos hb1).trans ((if_pos hb2).trans (if_pos h28))).symm | exact hrr (by show _ = _; first | (rw [if_pos (by omega)]; done) | (rw [if_neg (by omega), if_pos (by omega)]; first | exact (b2i_t (by omega)).symm | exact (b2i_f (by omega)).symm) | (rw [if_neg (by omega), if_neg (by omega), if_pos (by omega)]; rfl) | (rw [if_neg (by omega), if_neg (by omega), if_neg (by omega)]))), rfl, rfl, rfl, by first | exact (if_pos ⟨hb1, hb2, h28⟩).symm | exact (if_neg (fun z => n1 z.1)).symm | exact (if_neg (fun z => n2 z.2.1)).symm | exact (if_neg (fun z => z.2.2 h28)).symm, rfl⟩
          · refine z_aload_n C dX7_test_61 rfl ?_
            refine z_gI C (ci := 7) (k := 9) rfl (by decide) rfl (by decide) wl_7 wq_19_1 rfl dX7_test_62 (by assumption) ?_
            rw [tstM_9, show grt (tstW (I (o + 1)) (I (o + 1) (20 + 36 * n9)) (I (o + 1) (21 + 36 * n9)) (I (o + 1) (22 + 36 * n9))) (2 * (I (o + 1) 3).toNat) = gTst (I (o + 1)) n9 (I (o + 1) (20 + 36 * n9)) from rfl]
            refine z_aload_n C dX7_test_65 rfl ?_
            refine z_gR C (ci := 7) (k := 0) rfl (by decide) rfl (by decide) wl_7 wq_4_3 (by decide) dX7_test_66 (by assumption) (by assumption) ?_
            refine z_iconst C dX7_test_69 ?_
            refine z_ialdk C (2) dX7_test_70 (by assumption) (by first | rfl | omega) (by omega) (by omega) ?_
            rw [tstM_r _ _ _ _ _ _ _ (by omega) (by omega) (by omega)]
            refine z_icmp_gt C (tgt := 78) dX7_test_71 (by decide) (by first | omega | exact b2i_r) (by first | omega | exact b2i_r) (fun h71 => ?_) (fun h71 => ?_)
            · refine z_iconst C dX7_test_78 ?_
              refine z_goto C (tgt := 102) dX7_test_79 (by decide) ?_
              exact z_iret2 C hQ rfl dX7_test_102 ⟨zr (by first | exact (if_neg n1).symm | exact ((if_pos hb1).trans (if_neg n2)).symm | exact ((if_pos hb1).trans ((if_pos hb2).trans (if_pos h28))).symm | exact hrr (by show _ = _; first | (rw [if_pos (by omega)]; done) | (rw [if_neg (by omega), if_pos (by omega)]; first | exact (b2i_t (by omega)).symm | exact (b2i_f (by omega)).symm) | (rw [if_neg (by omega), if_neg (by omega), if_pos (by omega)]; rfl) | (rw [if_neg (by omega), if_neg (by omega), if_neg (by omega)]))), rfl, rfl, rfl, by first | exact (if_pos ⟨hb1, hb2, h28⟩).symm | exact (if_neg (fun z => n1 z.1)).symm | exact (if_neg (fun z => n2 z.2.1)).symm | exact (if_neg (fun z => z.2.2 h28)).symm, rfl⟩
            · refine z_iconst C dX7_test_74 ?_
              refine z_goto C (tgt := 102) dX7_test_75 (by decide) ?_
              exact z_iret2 C hQ rfl dX7_test_102 ⟨zr (by first | exact (if_neg n1).symm | exact ((if_pos hb1).trans (if_neg n2)).symm | exact ((if_pos hb1).trans ((if_pos hb2).trans (if_pos h28))).symm | exact hrr (by show _ = _; first | (rw [if_pos (by omega)]; done) | (rw [if_neg (by omega), if_pos (by omega)]; first | exact (b2i_t (by omega)).symm | exact (b2i_f (by omega)).symm) | (rw [if_neg (by omega), if_neg (by omega), if_pos (by omega)]; rfl) | (rw [if_neg (by omega), if_neg (by omega), if_neg (by omega)]))), rfl, rfl, rfl, by first | exact (if_pos ⟨hb1, hb2, h28⟩).symm | exact (if_neg (fun z => n1 z.1)).symm | exact (if_neg (fun z => n2 z.2.1)).symm | exact (if_neg (fun z => z.2.2 h28)).symm, rfl⟩
        · refine z_aload_n C dX7_test_49 rfl ?_
          refine z_gI C (ci := 7) (k := 9) rfl (by decide) rfl (by decide) wl_7 wq_19_1 rfl dX7_test_50 (by assumption) ?_
          rw [tstM_9, show grt (tstW (I (o + 1)) (I (o + 1) (20 + 36 * n9)) (I (o + 1) (21 + 36 * n9)) (I (o + 1) (22 + 36 * n9))) (2 * (I (o + 1) 3).toNat) = gTst (I (o + 1)) n9 (I (o + 1) (20 + 36 * n9)) from rfl]
          refine z_goto C (tgt := 102) dX7_test_53 (by decide) ?_
          exact z_iret2 C hQ rfl dX7_test_102 ⟨zr (by first | exact (if_neg n1).symm | exact ((if_pos hb1).trans (if_neg n2)).symm | exact ((if_pos hb1).trans ((if_pos hb2).trans (if_pos h28))).symm | exact hrr (by show _ = _; first | (rw [if_pos (by omega)]; done) | (rw [if_neg (by omega), if_pos (by omega)]; first | exact (b2i_t (by omega)).symm | exact (b2i_f (by omega)).symm) | (rw [if_neg (by omega), if_neg (by omega), if_pos (by omega)]; rfl) | (rw [if_neg (by omega), if_neg (by omega), if_neg (by omega)]))), rfl, rfl, rfl, by first | exact (if_pos ⟨hb1, hb2, h28⟩).symm | exact (if_neg (fun z => n1 z.1)).symm | exact (if_neg (fun z => n2 z.2.1)).symm | exact (if_neg (fun z => z.2.2 h28)).symm, rfl⟩
      · refine z_bipush C dX7_test_31 (by decide) ?_
        exact z_iret2 C hQ rfl dX7_test_33 ⟨zr (by first | exact (if_neg n1).symm | exact ((if_pos hb1).trans (if_neg n2)).symm | exact ((if_pos hb1).trans ((if_pos hb2).trans (if_pos h28))).symm | exact hrr (by show _ = _; first | (rw [if_pos (by omega)]; done) | (rw [if_neg (by omega), if_pos (by omega)]; first | exact (b2i_t (by omega)).symm | exact (b2i_f (by omega)).symm) | (rw [if_neg (by omega), if_neg (by omega), if_pos (by omega)]; rfl) | (rw [if_neg (by omega), if_neg (by omega), if_neg (by omega)]))), rfl, rfl, rfl, by first | exact (if_pos ⟨hb1, hb2, h28⟩).symm | exact (if_neg (fun z => n1 z.1)).symm | exact (if_neg (fun z => n2 z.2.1)).symm | exact (if_neg (fun z => z.2.2 h28)).symm, rfl⟩
    · have n2 := b2i_0.mp h16
      refine z_bipush C dX7_test_19 (by decide) ?_
      exact z_iret2 C hQ rfl dX7_test_21 ⟨zr (by first | exact (if_neg n1).symm | exact ((if_pos hb1).trans (if_neg n2)).symm | exact ((if_pos hb1).trans ((if_pos hb2).trans (if_pos h28))).symm | exact hrr (by show _ = _; first | (rw [if_pos (by omega)]; done) | (rw [if_neg (by omega), if_pos (by omega)]; first | exact (b2i_t (by omega)).symm | exact (b2i_f (by omega)).symm) | (rw [if_neg (by omega), if_neg (by omega), if_pos (by omega)]; rfl) | (rw [if_neg (by omega), if_neg (by omega), if_neg (by omega)]))), rfl, rfl, rfl, by first | exact (if_pos ⟨hb1, hb2, h28⟩).symm | exact (if_neg (fun z => n1 z.1)).symm | exact (if_neg (fun z => n2 z.2.1)).symm | exact (if_neg (fun z => z.2.2 h28)).symm, rfl⟩
  · have n1 := b2i_0.mp h5
    refine z_iconst C dX7_test_8 ?_
    exact z_iret2 C hQ rfl dX7_test_9 ⟨zr (by first | exact (if_neg n1).symm | exact ((if_pos hb1).trans (if_neg n2)).symm | exact ((if_pos hb1).trans ((if_pos hb2).trans (if_pos h28))).symm | exact hrr (by show _ = _; first | (rw [if_pos (by omega)]; done) | (rw [if_neg (by omega), if_pos (by omega)]; first | exact (b2i_t (by omega)).symm | exact (b2i_f (by omega)).symm) | (rw [if_neg (by omega), if_neg (by omega), if_pos (by omega)]; rfl) | (rw [if_neg (by omega), if_neg (by omega), if_neg (by omega)]))), rfl, rfl, rfl, by first | exact (if_pos ⟨hb1, hb2, h28⟩).symm | exact (if_neg (fun z => n1 z.1)).symm | exact (if_neg (fun z => n2 z.2.1)).symm | exact (if_neg (fun z => z.2.2 h28)).symm, rfl⟩
end
section
theorem beL_s (w : Nat → Int) (i : Nat) : beL w (i + 1) = if beL w i = -6 ∨ w i < beL w i then w i else beL w i := rfl
theorem beB_s (w : Nat → Int) (i : Nat) : beB w (i + 1) = if beL w i = -6 ∨ w i < beL w i then (i : Int) - 99 else beB w i := rfl
theorem nrA_s (f : Nat → Int) (w : Int) (k : Nat) : nrA f w (k + 1) = if absz (prsA f ((k + 1 : Nat) : Int) - w) < (nrA f w k).2 ∨ (absz (prsA f ((k + 1 : Nat) : Int) - w) = (nrA f w k).2 ∧ popS ((k + 1 : Nat) : Int) 14 < popS (nrA f w k).1 14) then (((k + 1 : Nat) : Int), absz (prsA f ((k + 1 : Nat) : Int) - w)) else nrA f w k := rfl
theorem bestM_1 (I : MI) (o g i : Nat) : bestM I o g i (o + 1) = I (o + 1) := by
  unfold bestM
  split
  · rfl
  · exact tstM_r _ _ _ _ _ _ _ (by omega) (by omega) (by omega)
theorem bestM_s (I : MI) (o g i : Nat) : tstM (bestM I o g i) o ((i : Int) - 99) (I (o + 1) (21 + 36 * g)) (I (o + 1) (22 + 36 * g)) (2 * (I (o + 1) 3).toNat) = bestM I o g (i + 1) := by
  have e : bestM I o g (i + 1) = tstM I o ((i : Int) - 99) (I (o + 1) (21 + 36 * g)) (I (o + 1) (22 + 36 * g)) (2 * (I (o + 1) 3).toNat) := by
    unfold bestM
    rw [if_neg (by omega), show ((i + 1 : Nat) : Int) - 100 = (i : Int) - 99 by omega]
  rw [e]
  unfold bestM
  split
  · rfl
  · exact tstM_t _ _ _ _ _ _ _ _ _
theorem bestM_9 (I : MI) (o g i : Nat) : bestM I o g (i + 1) o 9 = beW (I (o + 1)) g i := by
  rw [← bestM_s, tstM_9, bestM_1]
  rfl
theorem beL_rng {w : Nat → Int} {m : Int} {n : Nat} (hw : ∀ i, i < n → 0 ≤ w i ∧ w i ≤ m) (hm : 0 ≤ m) : ∀ i, i ≤ n → -6 ≤ beL w i ∧ beL w i ≤ m ∧ -99 ≤ beB w i ∧ beB w i ≤ i
  | 0, _ => by simp [beL, beB]; omega
  | i + 1, h => by
    have ih := beL_rng hw hm i (by omega)
    have := hw i (by omega)
    unfold beL beB
    split <;> omega
set_option maxHeartbeats 4000000 in
set_option maxRecDepth 100000 in
theorem mX7_bestError (l : Launch) (G : GG) {z : Nat} {K N : Nat → Nat} {I : MI} {R : MR} {o : Nat} (hM : ShM G z K N R o) (hO : Ok (I (o + 1))) {gg wh : Int} (hgg : -2147483648 ≤ gg ∧ gg < 2147483648) (hwh : -2147483648 ≤ wh ∧ wh < 2147483648) : Cod l G yX7_bestError (Cond.code yX7_bestError cX7_bestError 7 (some .int) :: wsL_law) ⟨5, 0, 0, 115⟩ [.ref o, .int (zI gg), .int (zI wh)] z K N I R (some (.int (zI (if 0 ≤ gg ∧ gg ≤ I (o + 1) 5 - 1 then (if 0 ≤ wh ∧ wh ≤ 1 then (if I (o + 1) 3 = 0 then -5 else (if wh = 0 then beB (beW (I (o + 1)) gg.toNat) 199 + 100 else beL (beW (I (o + 1)) gg.toNat) 199)) else -2) else -1)))) (if (0 ≤ gg ∧ gg ≤ I (o + 1) 5 - 1) ∧ (0 ≤ wh ∧ wh ≤ 1) ∧ ¬ I (o + 1) 3 = 0 then bestM I o gg.toNat 199 else I) R := by
  refine Con.of (own := RX7) (cc := cX7_bestError) (maxL := 7) (ret := (some .int)) (by decide +kernel) rfl rfl (Nat.le_of_ble_eq_true rfl) (by decide) rfl ?_
  intro p e9 s mt args below meth c Q hin hQ C
  obtain ⟨ho, ⟨r0, r1, r3, r4, r5, r7, r8⟩, ⟨k1, k2, k3, k4, k5, k6, k7⟩, n1, n2, n3, n4, n5, n6, n7⟩ := id hM
  have h5 := hO.2.2.2.2.2.1
  have h3 := hO.2.2.2.1
  have hloop : ∀ (g : Nat), (g : Int) < I (o + 1) 5 → 0 < I (o + 1) 3 → gg = (g : Int) → 0 ≤ wh ∧ wh ≤ 1 → ∀ (n : Nat) (i : Nat), i ≤ 199 → 199 - i < n → Zq p l e9 ⟨5, 0, 0, 115⟩ s mt args below meth c G 7 Q 0 0 z K N (bestM I o g i) R 45 [(0, .ref o), (1, .int (zI (g : Int))), (2, .int (zI wh)), (3, .int (zI (beB (beW (I (o + 1)) g) i))), (4, .int (zI (beL (beW (I (o + 1)) g) i))), (5, .int (zI ((i : Int) - 99)))] [] := by
    intro g hg h30 hgg9 hwh9 n
    subst hgg9
    simp only [Int.toNat_natCast] at hQ
    obtain ⟨c1, c2, c3, c4, c5⟩ := hO.2.2.2.2.2.2.2 g hg
    have hw : ∀ i : Nat, i < 199 → 0 ≤ beW (I (o + 1)) g i ∧ beW (I (o + 1)) g i ≤ 16000198 := fun i hi => gTst_rng hO h30 hg (by omega)
    have hb1 : 0 ≤ (g : Int) ∧ (g : Int) ≤ I (o + 1) 5 - 1 := by omega
    have hb3 : ¬ I (o + 1) 3 = 0 := by omega
    induction n with
    | zero => intro i h1 h2; exact absurd h2 (by omega)
    | succ n ih =>
      intro i h1 h2
      have hl := beL_rng hw (by omega) i (by omega)
      refine z_iload C dX7_bestError_45 rfl ?_
      refine z_bipush C dX7_bestError_47 (by decide) ?_
      refine z_icmp_gt C (tgt := 116) dX7_bestError_49 (by decide) (by first | omega | exact b2i_r) (by first | omega | exact b2i_r) (fun h49 => ?_) (fun h49 => ?_)
      · refine z_iload_n C dX7_bestError_116 rfl ?_
        refine z_if_ne C (tgt := 127) dX7_bestError_117 (by decide) (by first | omega | exact b2i_r) (fun h117 => ?_) (fun h117 => ?_)
        · refine z_iload C dX7_bestError_127 rfl ?_
          exact z_iret2 C hQ rfl dX7_bestError_129 ⟨zr (by rw [if_pos hb1, if_pos hwh9, if_neg hb3, show i = 199 by omega]; first | (rw [if_pos (by omega)]; done) | (rw [if_neg (by omega)]; done)), rfl, rfl, rfl, by rw [show i = 199 by omega]; exact (if_pos ⟨hb1, hwh9, hb3⟩).symm, rfl⟩
        · refine z_iload_n C dX7_bestError_120 rfl ?_
          refine z_bipush C dX7_bestError_121 (by decide) ?_
          refine z_iadd C dX7_bestError_123 ?_
          refine z_goto C (tgt := 129) dX7_bestError_124 (by decide) ?_
          exact z_iret2 C hQ rfl dX7_bestError_129 ⟨zr (by rw [if_pos hb1, if_pos hwh9, if_neg hb3, show i = 199 by omega]; first | (rw [if_pos (by omega)]; done) | (rw [if_neg (by omega)]; done)), rfl, rfl, rfl, by rw [show i = 199 by omega]; exact (if_pos ⟨hb1, hwh9, hb3⟩).symm, rfl⟩
      · refine z_aload_n C dX7_bestError_52 rfl ?_
        refine z_iload_n C dX7_bestError_53 rfl ?_
        refine z_iload C dX7_bestError_54 rfl ?_
        refine z_callVd C (ci := 7) rfl (by decide) (by first | assumption | exact hM.1) (mX7_tests l G hM (by rw [bestM_1]; exact hO) (g := g) (by rw [bestM_1]; exact hg) (er := (i : Int) - 99) (by omega)) (cwV 2 C.2.2.2.2.1 gv7_146 rfl rfl rfl hd_X7_tests ⟨Nat.le_of_ble_eq_true rfl, Nat.le_of_ble_eq_true rfl⟩) rfl rfl (Nat.le_of_ble_eq_true rfl) dX7_bestError_56 ⟨Nat.zero_le _, Nat.zero_le _⟩ ?_
        rw [bestM_1, bestM_s]
        have hwi := hw i (by omega)
        refine z_iload C dX7_bestError_59 rfl ?_
        refine z_bipush C dX7_bestError_61 (by decide) ?_
        refine z_icmp_eq C (tgt := 75) dX7_bestError_63 (by decide) (by first | omega | exact b2i_r) (by first | omega | exact b2i_r) (fun h63 => ?_) (fun h63 => ?_)
        · refine z_iconst C dX7_bestError_75 ?_
          refine z_goto C (tgt := 80) dX7_bestError_76 (by decide) ?_
          refine z_istore C dX7_bestError_80 (by decide) rfl ?_
          refine z_iload C dX7_bestError_82 rfl ?_
          refine z_if_eq C (tgt := 92) dX7_bestError_84 (by decide) (by first | omega | exact b2i_r) (fun h84 => ?_) (fun h84 => ?_)
          · refine z_iload_n C dX7_bestError_92 rfl ?_
            refine z_top (y := .int (zI (beB (beW (I (o + 1)) g) (i + 1)))) (congrArg (fun x => Value.int (zI x)) (by first | (exfalso; omega) | (rw [beB_s]; first | rw [if_pos (by omega)] | rw [if_neg (by omega)]))) ?_
            refine z_istore_n C dX7_bestError_93 (by decide) rfl ?_
            refine z_iload C dX7_bestError_94 rfl ?_
            refine z_if_eq C (tgt := 106) dX7_bestError_96 (by decide) (by first | omega | exact b2i_r) (fun h96 => ?_) (fun h96 => ?_)
            · refine z_iload C dX7_bestError_106 rfl ?_
              refine z_top (y := .int (zI (beL (beW (I (o + 1)) g) (i + 1)))) (congrArg (fun x => Value.int (zI x)) (by first | (exfalso; omega) | (rw [beL_s]; first | (rw [if_pos (by omega)]; exact bestM_9 _ _ _ _) | (rw [if_neg (by omega)]; done) | rw [if_neg (by omega)]))) ?_
              refine z_istore C dX7_bestError_108 (by decide) rfl ?_
              refine z_iinc C dX7_bestError_110 rfl (by decide) rfl ?_
              rw [show (i : Int) - 99 + 1 = ((i + 1 : Nat) : Int) - 99 by omega]
              refine z_goto C (tgt := 45) dX7_bestError_113 (by decide) ?_
              exact z_sub [0, 1, 2, 3, 4, 5] rfl rfl (ih (i + 1) (by omega) (by omega))
            · refine z_aload_n C dX7_bestError_99 rfl ?_
              refine z_gI C (ci := 7) (k := 9) rfl (by decide) rfl (by decide) wl_7 wq_19_1 rfl dX7_bestError_100 (by assumption) ?_
              refine z_goto C (tgt := 108) dX7_bestError_103 (by decide) ?_
              refine z_top (y := .int (zI (beL (beW (I (o + 1)) g) (i + 1)))) (congrArg (fun x => Value.int (zI x)) (by first | (exfalso; omega) | (rw [beL_s]; first | (rw [if_pos (by omega)]; exact bestM_9 _ _ _ _) | (rw [if_neg (by omega)]; done) | rw [if_neg (by omega)]))) ?_
              refine z_istore C dX7_bestError_108 (by decide) rfl ?_
              refine z_iinc C dX7_bestError_110 rfl (by decide) rfl ?_
              rw [show (i : Int) - 99 + 1 = ((i + 1 : Nat) : Int) - 99 by omega]
              refine z_goto C (tgt := 45) dX7_bestError_113 (by decide) ?_
              exact z_sub [0, 1, 2, 3, 4, 5] rfl rfl (ih (i + 1) (by omega) (by omega))
          · refine z_iload C dX7_bestError_87 rfl ?_
            refine z_goto C (tgt := 93) dX7_bestError_89 (by decide) ?_
            refine z_top (y := .int (zI (beB (beW (I (o + 1)) g) (i + 1)))) (congrArg (fun x => Value.int (zI x)) (by first | (exfalso; omega) | (rw [beB_s]; first | rw [if_pos (by omega)] | rw [if_neg (by omega)]))) ?_
            refine z_istore_n C dX7_bestError_93 (by decide) rfl ?_
            refine z_iload C dX7_bestError_94 rfl ?_
            refine z_if_eq C (tgt := 106) dX7_bestError_96 (by decide) (by first | omega | exact b2i_r) (fun h96 => ?_) (fun h96 => ?_)
            · refine z_iload C dX7_bestError_106 rfl ?_
              refine z_top (y := .int (zI (beL (beW (I (o + 1)) g) (i + 1)))) (congrArg (fun x => Value.int (zI x)) (by first | (exfalso; omega) | (rw [beL_s]; first | (rw [if_pos (by omega)]; exact bestM_9 _ _ _ _) | (rw [if_neg (by omega)]; done) | rw [if_neg (by omega)]))) ?_
              refine z_istore C dX7_bestError_108 (by decide) rfl ?_
              refine z_iinc C dX7_bestError_110 rfl (by decide) rfl ?_
              rw [show (i : Int) - 99 + 1 = ((i + 1 : Nat) : Int) - 99 by omega]
              refine z_goto C (tgt := 45) dX7_bestError_113 (by decide) ?_
              exact z_sub [0, 1, 2, 3, 4, 5] rfl rfl (ih (i + 1) (by omega) (by omega))
            · refine z_aload_n C dX7_bestError_99 rfl ?_
              refine z_gI C (ci := 7) (k := 9) rfl (by decide) rfl (by decide) wl_7 wq_19_1 rfl dX7_bestError_100 (by assumption) ?_
              refine z_goto C (tgt := 108) dX7_bestError_103 (by decide) ?_
              refine z_top (y := .int (zI (beL (beW (I (o + 1)) g) (i + 1)))) (congrArg (fun x => Value.int (zI x)) (by first | (exfalso; omega) | (rw [beL_s]; first | (rw [if_pos (by omega)]; exact bestM_9 _ _ _ _) | (rw [if_neg (by omega)]; done) | rw [if_neg (by omega)]))) ?_
              refine z_istore C dX7_bestError_108 (by decide) rfl ?_
              refine z_iinc C dX7_bestError_110 rfl (by decide) rfl ?_
              rw [show (i : Int) - 99 + 1 = ((i + 1 : Nat) : Int) - 99 by omega]
              refine z_goto C (tgt := 45) dX7_bestError_113 (by decide) ?_
              exact z_sub [0, 1, 2, 3, 4, 5] rfl rfl (ih (i + 1) (by omega) (by omega))
        · refine z_aload_n C dX7_bestError_66 rfl ?_
          refine z_gI C (ci := 7) (k := 9) rfl (by decide) rfl (by decide) wl_7 wq_19_1 rfl dX7_bestError_67 (by assumption) ?_
          rw [bestM_9]
          refine z_iload C dX7_bestError_70 rfl ?_
          refine z_icmp_ge C (tgt := 79) dX7_bestError_72 (by decide) (by first | omega | exact b2i_r) (by first | omega | exact b2i_r) (fun h72 => ?_) (fun h72 => ?_)
          · refine z_iconst C dX7_bestError_79 ?_
            refine z_istore C dX7_bestError_80 (by decide) rfl ?_
            refine z_iload C dX7_bestError_82 rfl ?_
            refine z_if_eq C (tgt := 92) dX7_bestError_84 (by decide) (by first | omega | exact b2i_r) (fun h84 => ?_) (fun h84 => ?_)
            · refine z_iload_n C dX7_bestError_92 rfl ?_
              refine z_top (y := .int (zI (beB (beW (I (o + 1)) g) (i + 1)))) (congrArg (fun x => Value.int (zI x)) (by first | (exfalso; omega) | (rw [beB_s]; first | rw [if_pos (by omega)] | rw [if_neg (by omega)]))) ?_
              refine z_istore_n C dX7_bestError_93 (by decide) rfl ?_
              refine z_iload C dX7_bestError_94 rfl ?_
              refine z_if_eq C (tgt := 106) dX7_bestError_96 (by decide) (by first | omega | exact b2i_r) (fun h96 => ?_) (fun h96 => ?_)
              · refine z_iload C dX7_bestError_106 rfl ?_
                refine z_top (y := .int (zI (beL (beW (I (o + 1)) g) (i + 1)))) (congrArg (fun x => Value.int (zI x)) (by first | (exfalso; omega) | (rw [beL_s]; first | (rw [if_pos (by omega)]; exact bestM_9 _ _ _ _) | (rw [if_neg (by omega)]; done) | rw [if_neg (by omega)]))) ?_
                refine z_istore C dX7_bestError_108 (by decide) rfl ?_
                refine z_iinc C dX7_bestError_110 rfl (by decide) rfl ?_
                rw [show (i : Int) - 99 + 1 = ((i + 1 : Nat) : Int) - 99 by omega]
                refine z_goto C (tgt := 45) dX7_bestError_113 (by decide) ?_
                exact z_sub [0, 1, 2, 3, 4, 5] rfl rfl (ih (i + 1) (by omega) (by omega))
              · refine z_aload_n C dX7_bestError_99 rfl ?_
                refine z_gI C (ci := 7) (k := 9) rfl (by decide) rfl (by decide) wl_7 wq_19_1 rfl dX7_bestError_100 (by assumption) ?_
                refine z_goto C (tgt := 108) dX7_bestError_103 (by decide) ?_
                refine z_top (y := .int (zI (beL (beW (I (o + 1)) g) (i + 1)))) (congrArg (fun x => Value.int (zI x)) (by first | (exfalso; omega) | (rw [beL_s]; first | (rw [if_pos (by omega)]; exact bestM_9 _ _ _ _) | (rw [if_neg (by omega)]; done) | rw [if_neg (by omega)]))) ?_
                refine z_istore C dX7_bestError_108 (by decide) rfl ?_
                refine z_iinc C dX7_bestError_110 rfl (by decide) rfl ?_
                rw [show (i : Int) - 99 + 1 = ((i + 1 : Nat) : Int) - 99 by omega]
                refine z_goto C (tgt := 45) dX7_bestError_113 (by decide) ?_
                exact z_sub [0, 1, 2, 3, 4, 5] rfl rfl (ih (i + 1) (by omega) (by omega))
            · refine z_iload C dX7_bestError_87 rfl ?_
              refine z_goto C (tgt := 93) dX7_bestError_89 (by decide) ?_
              refine z_top (y := .int (zI (beB (beW (I (o + 1)) g) (i + 1)))) (congrArg (fun x => Value.int (zI x)) (by first | (exfalso; omega) | (rw [beB_s]; first | rw [if_pos (by omega)] | rw [if_neg (by omega)]))) ?_
              refine z_istore_n C dX7_bestError_93 (by decide) rfl ?_
              refine z_iload C dX7_bestError_94 rfl ?_
              refine z_if_eq C (tgt := 106) dX7_bestError_96 (by decide) (by first | omega | exact b2i_r) (fun h96 => ?_) (fun h96 => ?_)
              · refine z_iload C dX7_bestError_106 rfl ?_
                refine z_top (y := .int (zI (beL (beW (I (o + 1)) g) (i + 1)))) (congrArg (fun x => Value.int (zI x)) (by first | (exfalso; omega) | (rw [beL_s]; first | (rw [if_pos (by omega)]; exact bestM_9 _ _ _ _) | (rw [if_neg (by omega)]; done) | rw [if_neg (by omega)]))) ?_
                refine z_istore C dX7_bestError_108 (by decide) rfl ?_
                refine z_iinc C dX7_bestError_110 rfl (by decide) rfl ?_
                rw [show (i : Int) - 99 + 1 = ((i + 1 : Nat) : Int) - 99 by omega]
                refine z_goto C (tgt := 45) dX7_bestError_113 (by decide) ?_
                exact z_sub [0, 1, 2, 3, 4, 5] rfl rfl (ih (i + 1) (by omega) (by omega))
              · refine z_aload_n C dX7_bestError_99 rfl ?_
                refine z_gI C (ci := 7) (k := 9) rfl (by decide) rfl (by decide) wl_7 wq_19_1 rfl dX7_bestError_100 (by assumption) ?_
                refine z_goto C (tgt := 108) dX7_bestError_103 (by decide) ?_
                refine z_top (y := .int (zI (beL (beW (I (o + 1)) g) (i + 1)))) (congrArg (fun x => Value.int (zI x)) (by first | (exfalso; omega) | (rw [beL_s]; first | (rw [if_pos (by omega)]; exact bestM_9 _ _ _ _) | (rw [if_neg (by omega)]; done) | rw [if_neg (by omega)]))) ?_
                refine z_istore C dX7_bestError_108 (by decide) rfl ?_
                refine z_iinc C dX7_bestError_110 rfl (by decide) rfl ?_
                rw [show (i : Int) - 99 + 1 = ((i + 1 : Nat) : Int) - 99 by omega]
                refine z_goto C (tgt := 45) dX7_bestError_113 (by decide) ?_
                exact z_sub [0, 1, 2, 3, 4, 5] rfl rfl (ih (i + 1) (by omega) (by omega))
          · refine z_iconst C dX7_bestError_75 ?_
            refine z_goto C (tgt := 80) dX7_bestError_76 (by decide) ?_
            refine z_istore C dX7_bestError_80 (by decide) rfl ?_
            refine z_iload C dX7_bestError_82 rfl ?_
            refine z_if_eq C (tgt := 92) dX7_bestError_84 (by decide) (by first | omega | exact b2i_r) (fun h84 => ?_) (fun h84 => ?_)
            · refine z_iload_n C dX7_bestError_92 rfl ?_
              refine z_top (y := .int (zI (beB (beW (I (o + 1)) g) (i + 1)))) (congrArg (fun x => Value.int (zI x)) (by first | (exfalso; omega) | (rw [beB_s]; first | rw [if_pos (by omega)] | rw [if_neg (by omega)]))) ?_
              refine z_istore_n C dX7_bestError_93 (by decide) rfl ?_
              refine z_iload C dX7_bestError_94 rfl ?_
              refine z_if_eq C (tgt := 106) dX7_bestError_96 (by decide) (by first | omega | exact b2i_r) (fun h96 => ?_) (fun h96 => ?_)
              · refine z_iload C dX7_bestError_106 rfl ?_
                refine z_top (y := .int (zI (beL (beW (I (o + 1)) g) (i + 1)))) (congrArg (fun x => Value.int (zI x)) (by first | (exfalso; omega) | (rw [beL_s]; first | (rw [if_pos (by omega)]; exact bestM_9 _ _ _ _) | (rw [if_neg (by omega)]; done) | rw [if_neg (by omega)]))) ?_
                refine z_istore C dX7_bestError_108 (by decide) rfl ?_
                refine z_iinc C dX7_bestError_110 rfl (by decide) rfl ?_
                rw [show (i : Int) - 99 + 1 = ((i + 1 : Nat) : Int) - 99 by omega]
                refine z_goto C (tgt := 45) dX7_bestError_113 (by decide) ?_
                exact z_sub [0, 1, 2, 3, 4, 5] rfl rfl (ih (i + 1) (by omega) (by omega))
              · refine z_aload_n C dX7_bestError_99 rfl ?_
                refine z_gI C (ci := 7) (k := 9) rfl (by decide) rfl (by decide) wl_7 wq_19_1 rfl dX7_bestError_100 (by assumption) ?_
                refine z_goto C (tgt := 108) dX7_bestError_103 (by decide) ?_
                refine z_top (y := .int (zI (beL (beW (I (o + 1)) g) (i + 1)))) (congrArg (fun x => Value.int (zI x)) (by first | (exfalso; omega) | (rw [beL_s]; first | (rw [if_pos (by omega)]; exact bestM_9 _ _ _ _) | (rw [if_neg (by omega)]; done) | rw [if_neg (by omega)]))) ?_
                refine z_istore C dX7_bestError_108 (by decide) rfl ?_
                refine z_iinc C dX7_bestError_110 rfl (by decide) rfl ?_
                rw [show (i : Int) - 99 + 1 = ((i + 1 : Nat) : Int) - 99 by omega]
                refine z_goto C (tgt := 45) dX7_bestError_113 (by decide) ?_
                exact z_sub [0, 1, 2, 3, 4, 5] rfl rfl (ih (i + 1) (by omega) (by omega))
            · refine z_iload C dX7_bestError_87 rfl ?_
              refine z_goto C (tgt := 93) dX7_bestError_89 (by decide) ?_
              refine z_top (y := .int (zI (beB (beW (I (o + 1)) g) (i + 1)))) (congrArg (fun x => Value.int (zI x)) (by first | (exfalso; omega) | (rw [beB_s]; first | rw [if_pos (by omega)] | rw [if_neg (by omega)]))) ?_
              refine z_istore_n C dX7_bestError_93 (by decide) rfl ?_
              refine z_iload C dX7_bestError_94 rfl ?_
              refine z_if_eq C (tgt := 106) dX7_bestError_96 (by decide) (by first | omega | exact b2i_r) (fun h96 => ?_) (fun h96 => ?_)
              · refine z_iload C dX7_bestError_106 rfl ?_
                refine z_top (y := .int (zI (beL (beW (I (o + 1)) g) (i + 1)))) (congrArg (fun x => Value.int (zI x)) (by first | (exfalso; omega) | (rw [beL_s]; first | (rw [if_pos (by omega)]; exact bestM_9 _ _ _ _) | (rw [if_neg (by omega)]; done) | rw [if_neg (by omega)]))) ?_
                refine z_istore C dX7_bestError_108 (by decide) rfl ?_
                refine z_iinc C dX7_bestError_110 rfl (by decide) rfl ?_
                rw [show (i : Int) - 99 + 1 = ((i + 1 : Nat) : Int) - 99 by omega]
                refine z_goto C (tgt := 45) dX7_bestError_113 (by decide) ?_
                exact z_sub [0, 1, 2, 3, 4, 5] rfl rfl (ih (i + 1) (by omega) (by omega))
              · refine z_aload_n C dX7_bestError_99 rfl ?_
                refine z_gI C (ci := 7) (k := 9) rfl (by decide) rfl (by decide) wl_7 wq_19_1 rfl dX7_bestError_100 (by assumption) ?_
                refine z_goto C (tgt := 108) dX7_bestError_103 (by decide) ?_
                refine z_top (y := .int (zI (beL (beW (I (o + 1)) g) (i + 1)))) (congrArg (fun x => Value.int (zI x)) (by first | (exfalso; omega) | (rw [beL_s]; first | (rw [if_pos (by omega)]; exact bestM_9 _ _ _ _) | (rw [if_neg (by omega)]; done) | rw [if_neg (by omega)]))) ?_
                refine z_istore C dX7_bestError_108 (by decide) rfl ?_
                refine z_iinc C dX7_bestError_110 rfl (by decide) rfl ?_
                rw [show (i : Int) - 99 + 1 = ((i + 1 : Nat) : Int) - 99 by omega]
                refine z_goto C (tgt := 45) dX7_bestError_113 (by decide) ?_
                exact z_sub [0, 1, 2, 3, 4, 5] rfl rfl (ih (i + 1) (by omega) (by omega))
  refine z_aload_n C dX7_bestError_0 rfl ?_
  refine z_iload_n C dX7_bestError_1 rfl ?_
  refine z_callVd C (ci := 7) rfl (by decide) (by first | assumption | exact hM.1) (mX7_isGauge l G hM hO hgg) (cwV 1 C.2.2.2.2.1 gv7_143 rfl rfl rfl hd_X7_isGauge ⟨Nat.le_of_ble_eq_true rfl, Nat.le_of_ble_eq_true rfl⟩) rfl rfl (Nat.le_of_ble_eq_true rfl) dX7_bestError_2 ⟨Nat.zero_le _, Nat.zero_le _⟩ ?_
  refine z_if_ne C (tgt := 10) dX7_bestError_5 (by decide) (by first | omega | exact b2i_r) (fun h5 => ?_) (fun h5 => ?_)
  · have hb1 := b2i_1.mp h5
    refine z_iload_n C dX7_bestError_10 rfl ?_
    refine z_iconst C dX7_bestError_11 ?_
    refine z_iconst C dX7_bestError_12 ?_
    refine z_callSd C (mX7_within l G (by omega) (by omega) (by omega)) (va_cwS 3 C.2.2.2.2.1 gv7_39 rfl rfl rfl hs_X7_within ⟨Nat.le_of_ble_eq_true rfl, Nat.le_of_ble_eq_true rfl⟩) rfl rfl (Nat.le_of_ble_eq_true rfl) dX7_bestError_13 ⟨Nat.zero_le _, Nat.zero_le _⟩ ?_
    refine z_if_ne C (tgt := 22) dX7_bestError_16 (by decide) (by first | omega | exact b2i_r) (fun h16 => ?_) (fun h16 => ?_)
    · have hb2 := b2i_1.mp h16
      refine z_aload_n C dX7_bestError_22 rfl ?_
      refine z_gR C (ci := 7) (k := 0) rfl (by decide) rfl (by decide) wl_7 wq_4_3 (by decide) dX7_bestError_23 (by assumption) (by assumption) ?_
      refine z_iconst C dX7_bestError_26 ?_
      refine z_ialdk C (3) dX7_bestError_27 (by assumption) (by first | rfl | omega) (by omega) (by omega) ?_
      refine z_if_ne C (tgt := 34) dX7_bestError_28 (by decide) (by first | omega | exact b2i_r) (fun h28 => ?_) (fun h28 => ?_)
      · refine z_bipush C dX7_bestError_34 (by decide) ?_
        refine z_istore_n C dX7_bestError_36 (by decide) rfl ?_
        refine z_bipush C dX7_bestError_37 (by decide) ?_
        refine z_istore C dX7_bestError_39 (by decide) rfl ?_
        refine z_bipush C dX7_bestError_41 (by decide) ?_
        refine z_istore C dX7_bestError_43 (by decide) rfl ?_
        obtain ⟨n9, hn9⟩ := Int.eq_ofNat_of_zero_le (show 0 ≤ gg by omega)
        refine z_conv (lv' := [(0, .ref o), (1, .int (zI (n9 : Int))), (2, .int (zI wh)), (3, .int (zI (-99))), (4, .int (zI (-6))), (5, .int (zI (-99)))]) rfl rfl (by rw [hn9]; rfl) rfl ?_
        exact hloop n9 (by omega) (by omega) hn9 hb2 200 0 (by omega) (by omega)
      · refine z_bipush C dX7_bestError_31 (by decide) ?_
        exact z_iret2 C hQ rfl dX7_bestError_33 ⟨zr (by first | exact (if_neg n1).symm | exact ((if_pos hb1).trans (if_neg n2)).symm | exact ((if_pos hb1).trans ((if_pos hb2).trans (if_pos h28))).symm), rfl, rfl, rfl, by first | exact (if_neg (fun z => n1 z.1)).symm | exact (if_neg (fun z => n2 z.2.1)).symm | exact (if_neg (fun z => z.2.2 h28)).symm, rfl⟩
    · have n2 := b2i_0.mp h16
      refine z_bipush C dX7_bestError_19 (by decide) ?_
      exact z_iret2 C hQ rfl dX7_bestError_21 ⟨zr (by first | exact (if_neg n1).symm | exact ((if_pos hb1).trans (if_neg n2)).symm | exact ((if_pos hb1).trans ((if_pos hb2).trans (if_pos h28))).symm), rfl, rfl, rfl, by first | exact (if_neg (fun z => n1 z.1)).symm | exact (if_neg (fun z => n2 z.2.1)).symm | exact (if_neg (fun z => z.2.2 h28)).symm, rfl⟩
  · have n1 := b2i_0.mp h5
    refine z_iconst C dX7_bestError_8 ?_
    exact z_iret2 C hQ rfl dX7_bestError_9 ⟨zr (by first | exact (if_neg n1).symm | exact ((if_pos hb1).trans (if_neg n2)).symm | exact ((if_pos hb1).trans ((if_pos hb2).trans (if_pos h28))).symm), rfl, rfl, rfl, by first | exact (if_neg (fun z => n1 z.1)).symm | exact (if_neg (fun z => n2 z.2.1)).symm | exact (if_neg (fun z => z.2.2 h28)).symm, rfl⟩

set_option maxHeartbeats 4000000 in
set_option maxRecDepth 100000 in
theorem mX7_bits (l : Launch) (G : GG) {z : Nat} {K N : Nat → Nat} {I : MI} {R : MR} {v : Int} (hv : 0 ≤ v ∧ v < 2147483648) : Cod l G yX7_bits (Cond.code yX7_bits cX7_bits 3 (some .int) :: wsL_law) ⟨0, 0, 0, 0⟩ [.int (zI v)] z K N I R (some (.int (zI (popS v 14)))) I R := by
  refine Con.of (own := RX7) (cc := cX7_bits) (maxL := 3) (ret := (some .int)) (by decide +kernel) rfl rfl (Nat.le_of_ble_eq_true rfl) (by decide) rfl ?_
  intro p e9 s mt args below meth c Q hin hQ C
  have hloop : ∀ (n : Nat) (k : Nat), k ≤ 14 → 14 - k < n → Zq p l e9 ⟨0, 0, 0, 0⟩ s mt args below meth c G 3 Q 0 0 z K N I R 4 [(0, .int (zI v)), (1, .int (zI (popS v k))), (2, .int (zI (k : Int)))] [] := by
    intro n
    induction n with
    | zero => intro k h1 h2; exact absurd h2 (by omega)
    | succ n ih =>
      intro k h1 h2
      refine z_iload_n C dX7_bits_4 rfl ?_
      refine z_bipush C dX7_bits_5 (by decide) ?_
      refine z_icmp_ge C (tgt := 24) dX7_bits_7 (by decide) (by first | omega | exact b2i_r) (by first | omega | exact b2i_r) (fun h7 => ?_) (fun h7 => ?_)
      · refine z_iload_n C dX7_bits_24 rfl ?_
        exact z_iret2 C hQ rfl dX7_bits_25 ⟨zr (by rw [show k = 14 by omega]), rfl, rfl, rfl, rfl, rfl⟩
      · refine z_iload_n C dX7_bits_10 rfl ?_
        refine z_iload_n C dX7_bits_11 rfl ?_
        refine z_iload_n C dX7_bits_12 rfl ?_
        refine z_ishr C dX7_bits_13 (zI_shr (by omega) (by omega)) ?_
        refine z_iconst C dX7_bits_14 ?_
        refine z_iand C dX7_bits_15 (zI_and1 _) ?_
        refine z_iadd C dX7_bits_16 ?_
        refine z_istore_n C dX7_bits_17 (by decide) rfl ?_
        refine z_iinc C dX7_bits_18 rfl (by decide) rfl ?_
        refine z_goto C (tgt := 4) dX7_bits_21 (by decide) ?_
        exact ih (k + 1) (by omega) (by omega)
  refine z_iconst C dX7_bits_0 ?_
  refine z_istore_n C dX7_bits_1 (by decide) rfl ?_
  refine z_iconst C dX7_bits_2 ?_
  refine z_istore_n C dX7_bits_3 (by decide) rfl ?_
  exact hloop 15 0 (by omega) (by omega)

set_option maxHeartbeats 4000000 in
set_option maxRecDepth 100000 in
theorem mX7_nearest (l : Launch) (G : GG) {z : Nat} {K N : Nat → Nat} {I : MI} {R : MR} {o : Nat} (hM : ShM G z K N R o) (hO : Ok (I (o + 1))) {pr wh : Int} (hpr : -2147483648 ≤ pr ∧ pr < 2147483648) (hwh : -2147483648 ≤ wh ∧ wh < 2147483648) : Cod l G yX7_nearest (Cond.code yX7_nearest cX7_nearest 7 (some .int) :: wsL_law) ⟨4, 0, 0, 86⟩ [.ref o, .int (zI pr), .int (zI wh)] z K N I R (some (.int (zI (if 0 ≤ pr ∧ (0 ≤ wh ∧ wh ≤ 1) then (if wh = 0 then (nrA (I (o + 1)) pr (2 ^ (I (o + 1) 3).toNat - 1 : Int).toNat).1 else prsA (I (o + 1)) (nrA (I (o + 1)) pr (2 ^ (I (o + 1) 3).toNat - 1 : Int).toNat).1) else -2)))) I R := by
  refine Con.of (own := RX7) (cc := cX7_nearest) (maxL := 7) (ret := (some .int)) (by decide +kernel) rfl rfl (Nat.le_of_ble_eq_true rfl) (by decide) rfl ?_
  intro p e9 s mt args below meth c Q hin hQ C
  obtain ⟨ho, ⟨r0, r1, r3, r4, r5, r7, r8⟩, ⟨k1, k2, k3, k4, k5, k6, k7⟩, n1, n2, n3, n4, n5, n6, n7⟩ := id hM
  have h3 := hO.2.2.2.1
  have hp14 : (2 : Int) ^ (I (o + 1) 3).toNat ≤ 16384 := pow_le (b := 14) (by omega)
  have hp0 := pow_pos2 (I (o + 1) 3).toNat
  have hpa0 := prsA_rng hO 0
  have hloop : 0 ≤ pr → 0 ≤ wh ∧ wh ≤ 1 → ∀ (n : Nat) (k : Nat), ((k + 1 : Nat) : Int) ≤ 2 ^ (I (o + 1) 3).toNat → 2 ^ (I (o + 1) 3).toNat - ((k + 1 : Nat) : Int) < n → Zq p l e9 ⟨4, 0, 0, 86⟩ s mt args below meth c G 7 Q 0 0 z K N I R 33 [(0, .ref o), (1, .int (zI pr)), (2, .int (zI wh)), (3, .int (zI (nrA (I (o + 1)) pr k).1)), (4, .int (zI (nrA (I (o + 1)) pr k).2)), (5, .int (zI ((k + 1 : Nat) : Int)))] [] := by
    intro hpr0 hwh9 n
    induction n with
    | zero => intro k h1 h2; exact absurd h2 (by omega)
    | succ n ih =>
      intro k h1 h2
      have hn := nrA_rng hO ⟨hpr0, hpr.2⟩ k
      have hps := popS_rng ((k + 1 : Nat) : Int) 14
      have hps2 := popS_rng (nrA (I (o + 1)) pr k).1 14
      have hpa := prsA_rng hO ((k + 1 : Nat) : Int)
      refine z_iload C dX7_nearest_33 rfl ?_
      refine z_iconst C dX7_nearest_35 ?_
      refine z_aload_n C dX7_nearest_36 rfl ?_
      refine z_gR C (ci := 7) (k := 0) rfl (by decide) rfl (by decide) wl_7 wq_4_3 (by decide) dX7_nearest_37 (by assumption) (by assumption) ?_
      refine z_iconst C dX7_nearest_40 ?_
      refine z_ialdk C (3) dX7_nearest_41 (by assumption) (by first | rfl | omega) (by omega) (by omega) ?_
      refine z_ishl C dX7_nearest_42 (zI_shl (by omega)) ?_
      refine z_icmp_ge C (tgt := 98) dX7_nearest_43 (by decide) (by first | omega | exact b2i_r) (by first | omega | exact b2i_r) (fun h43 => ?_) (fun h43 => ?_)
      · have hk9 : (2 ^ (I (o + 1) 3).toNat - 1 : Int).toNat = k := by omega
        refine z_iload_n C dX7_nearest_98 rfl ?_
        refine z_if_ne C (tgt := 106) dX7_nearest_99 (by decide) (by first | omega | exact b2i_r) (fun h99 => ?_) (fun h99 => ?_)
        · refine z_aload_n C dX7_nearest_106 rfl ?_
          refine z_iload_n C dX7_nearest_107 rfl ?_
          refine z_callVd C (ci := 7) rfl (by decide) (by first | assumption | exact hM.1) (mX7_pressureOf l G hM hO (by omega)) (cwV 1 C.2.2.2.2.1 gv7_67 rfl rfl rfl hd_X7_pressureOf ⟨Nat.le_of_ble_eq_true rfl, Nat.le_of_ble_eq_true rfl⟩) rfl rfl (Nat.le_of_ble_eq_true rfl) dX7_nearest_108 ⟨Nat.zero_le _, Nat.zero_le _⟩ ?_
          exact z_iret2 C hQ rfl dX7_nearest_111 ⟨zr (by rw [if_pos ⟨hpr0, hwh9⟩, hk9]; first | (rw [if_pos (by omega)]; done) | (rw [if_neg (by omega)]; done)), rfl, rfl, rfl, rfl, rfl⟩
        · refine z_iload_n C dX7_nearest_102 rfl ?_
          refine z_goto C (tgt := 111) dX7_nearest_103 (by decide) ?_
          exact z_iret2 C hQ rfl dX7_nearest_111 ⟨zr (by rw [if_pos ⟨hpr0, hwh9⟩, hk9]; first | (rw [if_pos (by omega)]; done) | (rw [if_neg (by omega)]; done)), rfl, rfl, rfl, rfl, rfl⟩
      · refine z_aload_n C dX7_nearest_46 rfl ?_
        refine z_iload C dX7_nearest_47 rfl ?_
        refine z_callVd C (ci := 7) rfl (by decide) (by first | assumption | exact hM.1) (mX7_pressureOf l G hM hO (by omega)) (cwV 1 C.2.2.2.2.1 gv7_67 rfl rfl rfl hd_X7_pressureOf ⟨Nat.le_of_ble_eq_true rfl, Nat.le_of_ble_eq_true rfl⟩) rfl rfl (Nat.le_of_ble_eq_true rfl) dX7_nearest_49 ⟨Nat.zero_le _, Nat.zero_le _⟩ ?_
        refine z_iload_n C dX7_nearest_52 rfl ?_
        refine z_isub C dX7_nearest_53 ?_
        refine z_callSd C (mX7_size l G (by omega)) (va_cwS 1 C.2.2.2.2.1 gv7_58 rfl rfl rfl hs_X7_size ⟨Nat.le_of_ble_eq_true rfl, Nat.le_of_ble_eq_true rfl⟩) rfl rfl (Nat.le_of_ble_eq_true rfl) dX7_nearest_54 ⟨Nat.zero_le _, Nat.zero_le _⟩ ?_
        have hab : 0 ≤ absz (prsA (I (o + 1)) ((k + 1 : Nat) : Int) - pr) ∧ absz (prsA (I (o + 1)) ((k + 1 : Nat) : Int) - pr) < 2147483648 := by unfold absz; split <;> omega
        refine z_istore C dX7_nearest_57 (by decide) rfl ?_
        refine z_iload C dX7_nearest_59 rfl ?_
        refine z_iload C dX7_nearest_61 rfl ?_
        refine z_icmp_lt C (tgt := 85) dX7_nearest_63 (by decide) (by first | omega | exact b2i_r) (by first | omega | exact b2i_r) (fun h63 => ?_) (fun h63 => ?_)
        · refine z_iload C dX7_nearest_85 rfl ?_
          refine z_istore_n C dX7_nearest_87 (by decide) rfl ?_
          refine z_iload C dX7_nearest_88 rfl ?_
          refine z_istore C dX7_nearest_90 (by decide) rfl ?_
          refine z_iinc C dX7_nearest_92 rfl (by decide) rfl ?_
          refine z_goto C (tgt := 33) dX7_nearest_95 (by decide) ?_
          have h9 := ih (k + 1) (by omega) (by omega)
          first
          | (have e9 : nrA (I (o + 1)) pr (k + 1) = (((k + 1 : Nat) : Int), absz (prsA (I (o + 1)) ((k + 1 : Nat) : Int) - pr)) := by rw [nrA_s, if_pos (by omega)]
             rw [e9] at h9
             exact z_sub [0, 1, 2, 3, 4, 5] rfl rfl h9)
          | (have e9 : nrA (I (o + 1)) pr (k + 1) = nrA (I (o + 1)) pr k := by rw [nrA_s, if_neg (by omega)]
             rw [e9] at h9
             exact z_sub [0, 1, 2, 3, 4, 5] rfl rfl h9)
        · refine z_iload C dX7_nearest_66 rfl ?_
          refine z_iload C dX7_nearest_68 rfl ?_
          refine z_icmp_ne C (tgt := 92) dX7_nearest_70 (by decide) (by first | omega | exact b2i_r) (by first | omega | exact b2i_r) (fun h70 => ?_) (fun h70 => ?_)
          · refine z_iinc C dX7_nearest_92 rfl (by decide) rfl ?_
            refine z_goto C (tgt := 33) dX7_nearest_95 (by decide) ?_
            have h9 := ih (k + 1) (by omega) (by omega)
            first
            | (have e9 : nrA (I (o + 1)) pr (k + 1) = (((k + 1 : Nat) : Int), absz (prsA (I (o + 1)) ((k + 1 : Nat) : Int) - pr)) := by rw [nrA_s, if_pos (by omega)]
               rw [e9] at h9
               exact z_sub [0, 1, 2, 3, 4, 5] rfl rfl h9)
            | (have e9 : nrA (I (o + 1)) pr (k + 1) = nrA (I (o + 1)) pr k := by rw [nrA_s, if_neg (by omega)]
               rw [e9] at h9
               exact z_sub [0, 1, 2, 3, 4, 5] rfl rfl h9)
          · refine z_iload C dX7_nearest_73 rfl ?_
            refine z_callSd C (mX7_bits l G (by omega)) (va_cwS 1 C.2.2.2.2.1 gv7_166 rfl rfl rfl hs_X7_bits ⟨Nat.le_of_ble_eq_true rfl, Nat.le_of_ble_eq_true rfl⟩) rfl rfl (Nat.le_of_ble_eq_true rfl) dX7_nearest_75 ⟨Nat.zero_le _, Nat.zero_le _⟩ ?_
            refine z_iload_n C dX7_nearest_78 rfl ?_
            refine z_callSd C (mX7_bits l G (by omega)) (va_cwS 1 C.2.2.2.2.1 gv7_166 rfl rfl rfl hs_X7_bits ⟨Nat.le_of_ble_eq_true rfl, Nat.le_of_ble_eq_true rfl⟩) rfl rfl (Nat.le_of_ble_eq_true rfl) dX7_nearest_79 ⟨Nat.zero_le _, Nat.zero_le _⟩ ?_
            refine z_icmp_ge C (tgt := 92) dX7_nearest_82 (by decide) (by first | omega | exact b2i_r) (by first | omega | exact b2i_r) (fun h82 => ?_) (fun h82 => ?_)
            · refine z_iinc C dX7_nearest_92 rfl (by decide) rfl ?_
              refine z_goto C (tgt := 33) dX7_nearest_95 (by decide) ?_
              have h9 := ih (k + 1) (by omega) (by omega)
              first
              | (have e9 : nrA (I (o + 1)) pr (k + 1) = (((k + 1 : Nat) : Int), absz (prsA (I (o + 1)) ((k + 1 : Nat) : Int) - pr)) := by rw [nrA_s, if_pos (by omega)]
                 rw [e9] at h9
                 exact z_sub [0, 1, 2, 3, 4, 5] rfl rfl h9)
              | (have e9 : nrA (I (o + 1)) pr (k + 1) = nrA (I (o + 1)) pr k := by rw [nrA_s, if_neg (by omega)]
                 rw [e9] at h9
                 exact z_sub [0, 1, 2, 3, 4, 5] rfl rfl h9)
            · refine z_iload C dX7_nearest_85 rfl ?_
              refine z_istore_n C dX7_nearest_87 (by decide) rfl ?_
              refine z_iload C dX7_nearest_88 rfl ?_
              refine z_istore C dX7_nearest_90 (by decide) rfl ?_
              refine z_iinc C dX7_nearest_92 rfl (by decide) rfl ?_
              refine z_goto C (tgt := 33) dX7_nearest_95 (by decide) ?_
              have h9 := ih (k + 1) (by omega) (by omega)
              first
              | (have e9 : nrA (I (o + 1)) pr (k + 1) = (((k + 1 : Nat) : Int), absz (prsA (I (o + 1)) ((k + 1 : Nat) : Int) - pr)) := by rw [nrA_s, if_pos (by omega)]
                 rw [e9] at h9
                 exact z_sub [0, 1, 2, 3, 4, 5] rfl rfl h9)
              | (have e9 : nrA (I (o + 1)) pr (k + 1) = nrA (I (o + 1)) pr k := by rw [nrA_s, if_neg (by omega)]
                 rw [e9] at h9
                 exact z_sub [0, 1, 2, 3, 4, 5] rfl rfl h9)
  refine z_iload_n C dX7_nearest_0 rfl ?_
  refine z_if_lt C (tgt := 13) dX7_nearest_1 (by decide) (by first | omega | exact b2i_r) (fun h1 => ?_) (fun h1 => ?_)
  · refine z_bipush C dX7_nearest_13 (by decide) ?_
    exact z_iret2 C hQ rfl dX7_nearest_15 ⟨zr (by first | exact (if_neg (fun z => b2i_0.mp h10 z.2)).symm | rw [if_neg (by omega)]), rfl, rfl, rfl, rfl, rfl⟩
  · refine z_iload_n C dX7_nearest_4 rfl ?_
    refine z_iconst C dX7_nearest_5 ?_
    refine z_iconst C dX7_nearest_6 ?_
    refine z_callSd C (mX7_within l G (by omega) (by omega) (by omega)) (va_cwS 3 C.2.2.2.2.1 gv7_39 rfl rfl rfl hs_X7_within ⟨Nat.le_of_ble_eq_true rfl, Nat.le_of_ble_eq_true rfl⟩) rfl rfl (Nat.le_of_ble_eq_true rfl) dX7_nearest_7 ⟨Nat.zero_le _, Nat.zero_le _⟩ ?_
    refine z_if_ne C (tgt := 16) dX7_nearest_10 (by decide) (by first | omega | exact b2i_r) (fun h10 => ?_) (fun h10 => ?_)
    · have hb := b2i_1.mp h10
      refine z_iconst C dX7_nearest_16 ?_
      refine z_istore_n C dX7_nearest_17 (by decide) rfl ?_
      refine z_aload_n C dX7_nearest_18 rfl ?_
      refine z_iconst C dX7_nearest_19 ?_
      refine z_callVd C (ci := 7) rfl (by decide) (by first | assumption | exact hM.1) (mX7_pressureOf l G hM hO (by omega)) (cwV 1 C.2.2.2.2.1 gv7_67 rfl rfl rfl hd_X7_pressureOf ⟨Nat.le_of_ble_eq_true rfl, Nat.le_of_ble_eq_true rfl⟩) rfl rfl (Nat.le_of_ble_eq_true rfl) dX7_nearest_20 ⟨Nat.zero_le _, Nat.zero_le _⟩ ?_
      refine z_iload_n C dX7_nearest_23 rfl ?_
      refine z_isub C dX7_nearest_24 ?_
      refine z_callSd C (mX7_size l G (by omega)) (va_cwS 1 C.2.2.2.2.1 gv7_58 rfl rfl rfl hs_X7_size ⟨Nat.le_of_ble_eq_true rfl, Nat.le_of_ble_eq_true rfl⟩) rfl rfl (Nat.le_of_ble_eq_true rfl) dX7_nearest_25 ⟨Nat.zero_le _, Nat.zero_le _⟩ ?_
      refine z_istore C dX7_nearest_28 (by decide) rfl ?_
      refine z_iconst C dX7_nearest_30 ?_
      refine z_istore C dX7_nearest_31 (by decide) rfl ?_
      exact hloop (by omega) hb 16385 0 (by omega) (by omega)
    · refine z_bipush C dX7_nearest_13 (by decide) ?_
      exact z_iret2 C hQ rfl dX7_nearest_15 ⟨zr (by first | exact (if_neg (fun z => b2i_0.mp h10 z.2)).symm | rw [if_neg (by omega)]), rfl, rfl, rfl, rfl, rfl⟩
end
section
/-! long words as whole numbers below 2^64 -/
def zU (n : Nat) : Int64 := (UInt64.ofNat n).toInt64
theorem zU_of (x : Int64) : zU x.toUInt64.toNat = x := by
  unfold zU
  rw [UInt64.ofNat_toNat]
  simp
theorem zU_bv (n : Nat) : (zU n).toBitVec = BitVec.ofNat 64 n := by
  unfold zU
  simp
theorem zU_and {a b : Nat} (k : Nat) (hb : b + 1 = 2 ^ k) (hk : k < 64) (ha : a < 2 ^ 64) : zU a &&& zU b = zU (a % 2 ^ k) := by
  apply Int64.toBitVec_inj.1
  rw [Int64.toBitVec_and, zU_bv, zU_bv, zU_bv]
  apply BitVec.eq_of_toNat_eq
  have h1 : 2 ^ k < 2 ^ 64 := Nat.pow_lt_pow_right (by omega) hk
  have h2 : a % 2 ^ k < 2 ^ k := Nat.mod_lt _ (Nat.two_pow_pos k)
  rw [BitVec.toNat_and, BitVec.toNat_ofNat, BitVec.toNat_ofNat, BitVec.toNat_ofNat, Nat.mod_eq_of_lt ha, Nat.mod_eq_of_lt (show b < 2 ^ 64 by omega), Nat.mod_eq_of_lt (show a % 2 ^ k < 2 ^ 64 by omega), show b = 2 ^ k - 1 by omega, Nat.and_two_pow_sub_one_eq_mod]
theorem zU_toInt {a : Nat} (ha : a < 2 ^ 63) : (zU a).toInt = a := by
  have e : (zU a).toInt = (zU a).toBitVec.toInt := rfl
  rw [e, zU_bv, BitVec.toInt_eq_toNat_cond, BitVec.toNat_ofNat, Nat.mod_eq_of_lt (show a < 2 ^ 64 by omega), if_pos (by omega)]
theorem zU_l2i {a : Nat} (ha : a < 2147483648) : (zU a).toInt32 = zI (a : Int) := by
  apply Int32.toInt_inj.mp
  rw [zI_int ⟨by omega, by omega⟩, Jvm.Kit.i32_of_i64 (by rw [zU_toInt (by omega)]; omega) (by rw [zU_toInt (by omega)]; omega), zU_toInt (by omega)]
theorem zU_inj {a b : Nat} (ha : a < 2 ^ 64) (hb : b < 2 ^ 64) : zU a = zU b ↔ a = b := by
  constructor
  · intro h
    have h1 := congrArg (fun x => x.toBitVec.toNat) h
    simp only [zU_bv, BitVec.toNat_ofNat] at h1
    rwa [Nat.mod_eq_of_lt ha, Nat.mod_eq_of_lt hb] at h1
  · intro h; rw [h]
theorem zI_sh63 : ∀ k : Fin 64, ((zI (k.val : Int)).toInt64.toUInt64 &&& Int64.toUInt64 63).toNat = k.val := by decide +kernel
theorem zU_shr {a k : Nat} (hk : k < 64) (ha : a < 2 ^ 64) : ((zU a).toUInt64 >>> ((zI (k : Int)).toInt64.toUInt64 &&& Int64.toUInt64 63)).toInt64 = zU (a / 2 ^ k) := by
  have hs := zI_sh63 ⟨k, hk⟩
  simp only at hs
  apply Int64.toBitVec_inj.1
  apply BitVec.eq_of_toNat_eq
  have h1 : a / 2 ^ k ≤ a := Nat.div_le_self _ _
  rw [zU_bv]
  simp only [UInt64.toBitVec_toInt64, UInt64.toBitVec_shiftRight, Int64.toBitVec_toUInt64]
  rw [zU_bv]
  simp only [BitVec.toNat_ofNat]
  rw [Nat.mod_eq_of_lt (show a / 2 ^ k < 2 ^ 64 by omega)]
  simp only [UInt64.toNat_toBitVec, BitVec.toNat_ushiftRight, BitVec.ushiftRight_eq', BitVec.toNat_umod, hs, BitVec.toNat_ofNat, Nat.shiftRight_eq_div_pow, Nat.mod_eq_of_lt ha]
  simp [hs, Nat.mod_eq_of_lt hk]
/-- the order of two long words, the left below 2^63 or the right 0 -/
def cmU (a b : Nat) : Int := if a < 2 ^ 63 then (if b < a then 1 else if a = b then 0 else -1) else -1
theorem cmU_rng (a b : Nat) : -1 ≤ cmU a b ∧ cmU a b ≤ 1 := by unfold cmU; repeat' split <;> omega
theorem lg_zU {a b : Nat} (ha : a < 2 ^ 64) (hb : b < 2 ^ 63) : lg_cmp (zU a) (zU b) = zI (cmU a b) := by
  have hb2 := zU_toInt hb
  unfold lg_cmp cmU
  by_cases h : a < 2 ^ 63
  · have ha2 := zU_toInt h
    rw [if_pos h]
    by_cases h1 : b < a
    · rw [if_pos h1, if_pos (Int64.lt_iff_toInt_lt.mpr (by omega))]; rfl
    · rw [if_neg h1, if_neg (fun z => by have := Int64.lt_iff_toInt_lt.mp z; omega)]
      by_cases h2 : a = b
      · rw [if_pos h2, if_pos (by rw [h2])]; rfl
      · rw [if_neg h2, if_neg (fun z => h2 ((zU_inj ha (by omega)).mp z))]; rfl
  · rw [if_neg h]
    have e : (zU a).toInt = (a : Int) - 2 ^ 64 := by
      have e : (zU a).toInt = (zU a).toBitVec.toInt := rfl
      rw [e, zU_bv, BitVec.toInt_eq_toNat_cond, BitVec.toNat_ofNat, Nat.mod_eq_of_lt ha, if_neg (by omega)]
      omega
    rw [if_neg (fun z => by have := Int64.lt_iff_toInt_lt.mp z; omega), if_neg (fun z => by have := (zU_inj ha (by omega)).mp z; omega)]; rfl
theorem cmU_0 (a : Nat) : cmU a 0 = 0 ↔ a = 0 := by unfold cmU; repeat' split <;> omega
theorem cmU_lt {a b : Nat} (ha : a < 2 ^ 63) : cmU a b < 0 ↔ a < b := by unfold cmU; repeat' split <;> omega
theorem cmU_le {a b : Nat} (ha : a < 2 ^ 63) : cmU a b ≤ 0 ↔ a ≤ b := by unfold cmU; repeat' split <;> omega
theorem zI_i2c {x : Int} (h : 0 ≤ x ∧ x < 65536) : ((zI x).toUInt32 % 65536).toInt32 = zI x := lg_i2c_word (by rw [zI_int ⟨by omega, by omega⟩]; exact h.1) (by rw [zI_int ⟨by omega, by omega⟩]; exact h.2)
section ZL
variable {p : Program} {l : Launch} {e : Env} {Rm : Room} {s : State} {m : MethodId} {args : Array Value} {below : List Frame} {meth : Method} {c : Code} {G : GG} {cc : ByteArray} {nL : Nat} {own : String} {ret : Option FieldType}
variable {Q : State → Prop} {cells slots z : Nat} {K N : Nat → Nat} {I : MI} {R : MR} {pc : Nat} {lv : List (Nat × Value)} {st : List Value}
theorem z_lconst (C : Cx p l e Rm s m args below meth c G cc nL own ret) {n : Fin 2} (x : Nat) (hx : (n : Nat) = x) (d : decode cc pc = .ok (.lconst n, 1)) (k : Zq p l e Rm s m args below meth c G nL Q cells slots z K N I R (pc + 1) lv (.long (zU (x)) :: st)) : Zq p l e Rm s m args below meth c G nL Q cells slots z K N I R pc lv st := fun H locs ls hW hL hl hd =>
  lv_lconst C.1 C.2.1 d (by subst hx; unfold zU; simp [Int64.ofNat]) (k H locs ls hW hL hl hd)
theorem z_ldc2 (C : Cx p l e Rm s m args below meth c G cc nL own ret) {i : Nat} {v : Int64} (x : Nat) (hx : v = zU x) (d : decode cc pc = .ok (.ldc2_w i, 3)) (hw : Cond.constantLong own i v ∈ wsL_law) (k : Zq p l e Rm s m args below meth c G nL Q cells slots z K N I R (pc + 3) lv (.long (zU (x)) :: st)) : Zq p l e Rm s m args below meth c G nL Q cells slots z K N I R pc lv st := fun H locs ls hW hL hl hd =>
  lv_ldc2 C.1 C.2.1 C.2.2.2.1 (C.2.2.2.2.1 _ hw) d (hx ▸ k H locs ls hW hL hl hd)
theorem z_ldcw (C : Cx p l e Rm s m args below meth c G cc nL own ret) {i : Nat} {n : Int} (d : decode cc pc = .ok (.ldc_w i, 3)) (hw : Cond.constant own i (zI n) ∈ wsL_law) (k : Zq p l e Rm s m args below meth c G nL Q cells slots z K N I R (pc + 3) lv (.int (zI n) :: st)) : Zq p l e Rm s m args below meth c G nL Q cells slots z K N I R pc lv st := fun H locs ls hW hL hl hd =>
  lv_ldcw C.1 C.2.1 C.2.2.2.1 (C.2.2.2.2.1 _ hw) d (k H locs ls hW hL hl hd)
theorem z_land (C : Cx p l e Rm s m args below meth c G cc nL own ret) {a b : Nat} (q : Nat) (hb : b + 1 = 2 ^ q) (hq : q < 64) (ha : a < 2 ^ 64) (d : decode cc pc = .ok (.land, 1)) (k : Zq p l e Rm s m args below meth c G nL Q cells slots z K N I R (pc + 1) lv (.long (zU (a % 2 ^ q)) :: st)) : Zq p l e Rm s m args below meth c G nL Q cells slots z K N I R pc lv (.long (zU (b)) :: .long (zU (a)) :: st) := fun H locs ls hW hL hl hd =>
  lv_land C.1 C.2.1 d (by rw [zU_and q hb hq ha]; exact k H locs ls hW hL hl hd)
theorem z_lushr (C : Cx p l e Rm s m args below meth c G cc nL own ret) {a j : Nat} (hj : j < 64) (ha : a < 2 ^ 64) (d : decode cc pc = .ok (.lushr, 1)) (k : Zq p l e Rm s m args below meth c G nL Q cells slots z K N I R (pc + 1) lv (.long (zU (a / 2 ^ j)) :: st)) : Zq p l e Rm s m args below meth c G nL Q cells slots z K N I R pc lv (.int (zI (j : Int)) :: .long (zU (a)) :: st) := fun H locs ls hW hL hl hd =>
  lv_lushr C.1 C.2.1 d (zU_shr hj ha) (k H locs ls hW hL hl hd)
theorem z_l2i (C : Cx p l e Rm s m args below meth c G cc nL own ret) {a : Nat} (ha : a < 2147483648) (d : decode cc pc = .ok (.l2i, 1)) (k : Zq p l e Rm s m args below meth c G nL Q cells slots z K N I R (pc + 1) lv (.int (zI (a : Int)) :: st)) : Zq p l e Rm s m args below meth c G nL Q cells slots z K N I R pc lv (.long (zU (a)) :: st) := fun H locs ls hW hL hl hd =>
  lv_l2i C.1 C.2.1 d (zU_l2i ha) (k H locs ls hW hL hl hd)
theorem z_i2c (C : Cx p l e Rm s m args below meth c G cc nL own ret) {x : Int} (hx : 0 ≤ x ∧ x < 65536) (d : decode cc pc = .ok (.i2c, 1)) (k : Zq p l e Rm s m args below meth c G nL Q cells slots z K N I R (pc + 1) lv (.int (zI x) :: st)) : Zq p l e Rm s m args below meth c G nL Q cells slots z K N I R pc lv (.int (zI x) :: st) := fun H locs ls hW hL hl hd =>
  lv_i2c C.1 C.2.1 d (zI_i2c hx) (k H locs ls hW hL hl hd)
theorem z_lcmp (C : Cx p l e Rm s m args below meth c G cc nL own ret) {a b : Nat} (ha : a < 2 ^ 64) (hb : b < 2 ^ 63) (d : decode cc pc = .ok (.lcmp, 1)) (k : Zq p l e Rm s m args below meth c G nL Q cells slots z K N I R (pc + 1) lv (.int (zI (cmU a b)) :: st)) : Zq p l e Rm s m args below meth c G nL Q cells slots z K N I R pc lv (.long (zU (b)) :: .long (zU (a)) :: st) := fun H locs ls hW hL hl hd =>
  W.lcmp C.1 C.2.1 d (by rw [lg_zU ha hb]; exact k H locs ls hW hL hl hd)
theorem z_lstore (C : Cx p l e Rm s m args below meth c G cc nL own ret) {i : Nat} {x : Int64} {lv' : List (Nat × Value)} (d : decode cc pc = .ok (.lstore i, 2)) (hn : i + 1 < nL) (hv : (i, Value.long x) :: lv.filter (fun q => !(q.1 == i) && (!(q.1 == i + 1) && !(q.1 + 1 == i && q.2.category == 2))) = lv') (h2 : lvd lv' = true) (k : Zq p l e Rm s m args below meth c G nL Q cells slots z K N I R (pc + 2) lv' st) : Zq p l e Rm s m args below meth c G nL Q cells slots z K N I R pc lv (.long x :: st) := fun H locs ls hW hL hl hd =>
  lv_lstore C.1 C.2.1 d hl hn hv (fun ls1 h1 => k H locs ls1 hW hL h1 h2)
theorem z_lstore_n (C : Cx p l e Rm s m args below meth c G cc nL own ret) {j : Fin 4} {i : Nat} {x : Int64} {lv' : List (Nat × Value)} (d : decode cc pc = .ok (.lstore_n j, 1)) (hi : (j : Nat) = i) (hn : i + 1 < nL) (hv : (i, Value.long x) :: lv.filter (fun q => !(q.1 == i) && (!(q.1 == i + 1) && !(q.1 + 1 == i && q.2.category == 2))) = lv') (h2 : lvd lv' = true) (k : Zq p l e Rm s m args below meth c G nL Q cells slots z K N I R (pc + 1) lv' st) : Zq p l e Rm s m args below meth c G nL Q cells slots z K N I R pc lv (.long x :: st) := fun H locs ls hW hL hl hd =>
  lv_lstore_n C.1 C.2.1 d hi hl hn hv (fun ls1 h1 => k H locs ls1 hW hL h1 h2)
end ZL
end
section
theorem lk_out5 {a a1 a2 a3 a4 a5 o1 o2 o3 o4 o5 d : Int} (h : ¬ a = a1 ∧ ¬ a = a2 ∧ ¬ a = a3 ∧ ¬ a = a4 ∧ ¬ a = a5) : Op.lookupswitch.offset [(a1, o1), (a2, o2), (a3, o3), (a4, o4), (a5, o5)] d a = d := by
  obtain ⟨h1, h2, h3, h4, h5⟩ := h
  simp [Op.lookupswitch.offset, h1, h2, h3, h4, h5, Ne.symm h1, Ne.symm h2, Ne.symm h3, Ne.symm h4, Ne.symm h5]
theorem lk_out6 {a a1 a2 a3 a4 a5 a6 o1 o2 o3 o4 o5 o6 d : Int} (h : ¬ a = a1 ∧ ¬ a = a2 ∧ ¬ a = a3 ∧ ¬ a = a4 ∧ ¬ a = a5 ∧ ¬ a = a6) : Op.lookupswitch.offset [(a1, o1), (a2, o2), (a3, o3), (a4, o4), (a5, o5), (a6, o6)] d a = d := by
  obtain ⟨h1, h2, h3, h4, h5, h6⟩ := h
  simp [Op.lookupswitch.offset, h1, h2, h3, h4, h5, h6, Ne.symm h1, Ne.symm h2, Ne.symm h3, Ne.symm h4, Ne.symm h5, Ne.symm h6]
/-! the pad: what put(l) does, l a number below 2^64 -/
def by8 (n k : Nat) : Nat := n / 2 ^ (8 * k) % 2 ^ 8
theorem by8_lt (n k : Nat) : by8 n k < 256 := Nat.mod_lt _ (by decide)
def okB (n : Nat) : Nat → Int
  | 0 => 1
  | k + 1 => if ¬ okB n k = 0 ∧ 33 ≤ (by8 n k : Int) ∧ (by8 n k : Int) ≤ 126 then 1 else 0
theorem okB_s (n k : Nat) : okB n (k + 1) = if ¬ okB n k = 0 ∧ 33 ≤ (by8 n k : Int) ∧ (by8 n k : Int) ≤ 126 then 1 else 0 := rfl
theorem okB_r (n k : Nat) : 0 ≤ okB n k ∧ okB n k ≤ 1 := by
  cases k with
  | zero => show 0 ≤ (1 : Int) ∧ (1 : Int) ≤ 1; omega
  | succ k => rw [okB_s]; split <;> omega
def lenB (n : Nat) : Nat → Nat → Nat
  | 0, k => k
  | q + 1, k => if by8 n k = 0 then k else lenB n q (k + 1)
theorem lenB_s (n q k : Nat) : lenB n (q + 1) k = if by8 n k = 0 then k else lenB n q (k + 1) := rfl
def putK (n : Nat) : Nat := lenB n 8 0
abbrev putBad (n : Nat) : Prop := putK n = 0 ∨ okB n (putK n) = 0 ∨ ¬ n / 2 ^ (8 * putK n) = 0
def padM (I : MI) (o n k j : Nat) : MI := u2 (va_up I (o + 5) (fun a => if (I o 6).toNat ≤ a ∧ a < (I o 6).toNat + (k - j) then (by8 n (k - 1 - (a - (I o 6).toNat)) : Int) else I (o + 5) a)) o 6 (I o 6 + ((k - j : Nat) : Int))
theorem padM_6 (I : MI) (o n k j : Nat) : padM I o n k j o 6 = I o 6 + ((k - j : Nat) : Int) := by unfold padM; rw [u2_s]
theorem padM_0 (I : MI) (o n k : Nat) : padM I o n k k = I := by
  unfold padM
  funext b j
  rw [Nat.sub_self]
  by_cases hb : b = o
  · subst hb
    by_cases hj : j = 6
    · subst hj; rw [u2_s]; omega
    · rw [u2_k hj, va_up_n (by omega)]
  · rw [u2_row hb]
    by_cases hc : b = o + 5
    · subst hc; rw [va_up_s, if_neg (by omega)]
    · rw [va_up_n hc]
theorem padM_s (I : MI) (o n k j : Nat) (hj : j + 1 ≤ k) : u2 (u2 (padM I o n k (j + 1)) (o + 5) ((I o 6).toNat + (k - (j + 1))) (by8 n j : Int)) o 6 (I o 6 + ((k - (j + 1) : Nat) : Int) + 1) = padM I o n k j := by
  unfold padM
  funext b i
  by_cases hb : b = o
  · subst hb
    by_cases hi : i = 6
    · subst hi; rw [u2_s, u2_s]; omega
    · rw [u2_k hi, u2_row (by omega), u2_k hi, va_up_n (by omega), u2_k hi, va_up_n (by omega)]
  · rw [u2_row hb]
    by_cases hc : b = o + 5
    · subst hc
      rw [u2_row hb, va_up_s]
      by_cases hi : i = (I o 6).toNat + (k - (j + 1))
      · subst hi
        rw [u2_s, if_pos (by omega), show k - 1 - ((I o 6).toNat + (k - (j + 1)) - (I o 6).toNat) = j by omega]
      · rw [u2_k hi, u2_row hb, va_up_s]
        by_cases h1 : (I o 6).toNat ≤ i ∧ i < (I o 6).toNat + (k - (j + 1))
        · rw [if_pos h1, if_pos (by omega)]
        · rw [if_neg h1, if_neg (by omega)]
    · rw [u2_row hc, u2_row hb, u2_row hb, va_up_n hc, va_up_n hc]
set_option maxHeartbeats 4000000 in
set_option maxRecDepth 100000 in
theorem mX7_put (l : Launch) (G : GG) {z : Nat} {K N : Nat → Nat} {I : MI} {R : MR} {o : Nat} (hM : ShM G z K N R o) {n : Nat} (hn : n < 2 ^ 64) (hP : 0 ≤ I o 6 ∧ I o 6 ≤ 80) : Cod l G yX7_put (Cond.code yX7_put cX7_put 8 (some .int) :: wsL_law) ⟨1, 0, 0, 22⟩ [.ref o, .long (zU n)] z K N I R (some (.int (zI (if putBad n then -2 else if 80 < I o 6 + (putK n : Int) then -4 else I o 6 + (putK n : Int))))) (if ¬ putBad n ∧ I o 6 + (putK n : Int) ≤ 80 then padM I o n (putK n) 0 else I) R := by
  refine Con.of (own := RX7) (cc := cX7_put) (maxL := 8) (ret := (some .int)) (by decide +kernel) rfl rfl (Nat.le_of_ble_eq_true rfl) (by decide) rfl ?_
  intro p e9 s mt args below meth c Q hin hQ C
  obtain ⟨ho, ⟨r0, r1, r3, r4, r5, r7, r8⟩, ⟨k1, k2, k3, k4, k5, k6, k7⟩, n1, n2, n3, n4, n5, n6, n7⟩ := id hM
  have hloop2 : ∀ (k : Nat), ¬ putBad n → putK n = k → I o 6 + (k : Int) ≤ 80 → k ≤ 8 → ∀ (q : Nat) (j : Nat), j ≤ k → j < q → Zq p l e9 ⟨1, 0, 0, 22⟩ s mt args below meth c G 8 Q 0 0 z K N (padM I o n k j) R 105 [(0, .ref o), (1, .long (zU n)), (3, .int (zI (k : Int))), (7, .int (zI ((j : Int) - 1)))] [] := by
    intro k hbad hkk hcase hk8 q
    induction q with
    | zero => intro j h1 h2; exact absurd h2 (by omega)
    | succ q ih =>
      intro j h1 h2
      refine z_iload C dX7_put_105 rfl ?_
      refine z_if_lt C (tgt := 147) dX7_put_107 (by decide) (by first | omega | exact b2i_r) (fun h107 => ?_) (fun h107 => ?_)
      · refine z_aload_n C dX7_put_147 rfl ?_
        refine z_gI C (ci := 7) (k := 6) rfl (by decide) rfl (by decide) wl_7 wq_22_5 rfl dX7_put_148 (by assumption) ?_
        rw [show j = 0 by omega, padM_6]
        exact z_iret2 C hQ rfl dX7_put_151 ⟨zr (by rw [if_neg hbad, hkk, if_neg (by omega)]; omega), rfl, rfl, rfl, by rw [if_pos ⟨hbad, by rw [hkk]; exact hcase⟩, hkk], rfl⟩
      · have hj1 : 1 ≤ j := by omega
        obtain ⟨j, rfl⟩ : ∃ i, j = i + 1 := ⟨j - 1, by omega⟩
        have hb8 := by8_lt n j
        have hdn : n / 2 ^ (8 * j) ≤ n := Nat.div_le_self _ _
        rw [show (((j + 1 : Nat) : Int) - 1) = (j : Int) by omega]
        refine z_aload_n C dX7_put_110 rfl ?_
        refine z_gR C (ci := 7) (k := 5) rfl (by decide) rfl (by decide) wl_7 wq_4_7 (by decide) dX7_put_111 (by assumption) (by assumption) ?_
        refine z_aload_n C dX7_put_114 rfl ?_
        refine z_gI C (ci := 7) (k := 6) rfl (by decide) rfl (by decide) wl_7 wq_22_5 rfl dX7_put_115 (by assumption) ?_
        rw [padM_6]
        refine z_lload_n C dX7_put_118 rfl ?_
        refine z_bipush C dX7_put_119 (by decide) ?_
        refine z_iload C dX7_put_121 rfl ?_
        refine z_imul C dX7_put_123 ?_
        rw [show (8 : Int) * (j : Int) = ((8 * j : Nat) : Int) by omega]
        refine z_lushr C (by omega) (by omega) dX7_put_124 ?_
        refine z_ldc2 C 255 (by decide) dX7_put_125 wq_26_3 ?_
        refine z_land C 8 rfl (by decide) (by omega) dX7_put_128 ?_
        rw [show n / 2 ^ (8 * j) % 2 ^ 8 = by8 n j from rfl]
        refine z_l2i C (by omega) dX7_put_129 ?_
        refine z_iastk C ((I o 6).toNat + (k - (j + 1))) dX7_put_130 (by assumption) (by first | rfl | omega) (by omega) (by omega) ?_
        refine z_aload_n C dX7_put_131 rfl ?_
        refine z_dup C dX7_put_132 rfl ?_
        refine z_gI C (ci := 7) (k := 6) rfl (by decide) rfl (by decide) wl_7 wq_22_5 rfl dX7_put_133 (by assumption) ?_
        rw [u2_row (by omega), padM_6]
        refine z_iconst C dX7_put_136 ?_
        refine z_iadd C dX7_put_137 ?_
        refine z_pI C (ci := 7) (k := 6) rfl (by decide) rfl (by decide) tyX7_ok nmX7 wl_7 wq_22_5 rfl (Or.inl rfl) dX7_put_138 (by assumption) ?_
        refine z_iinc C dX7_put_141 rfl (by decide) rfl ?_
        refine z_goto C (tgt := 105) dX7_put_144 (by decide) ?_
        rw [show (j : Int) + -1 = (j : Int) - 1 by omega]
        exact z_mem (padM_s I o n k j (by omega)) rfl (ih j (by omega) (by omega))
  have hloop : ∀ (q : Nat) (k : Nat), k ≤ 8 → 8 - k < q → lenB n (8 - k) k = putK n → Zq p l e9 ⟨1, 0, 0, 22⟩ s mt args below meth c G 8 Q 0 0 z K N I R 8 [(4, .long (zU (n / 2 ^ (8 * k)))), (0, .ref o), (1, .long (zU n)), (3, .int (zI (k : Int))), (6, .int (zI (okB n k)))] [] := by
    intro q
    induction q with
    | zero => intro k h1 h2; exact absurd h2 (by omega)
    | succ q ih =>
      intro k h1 h2 hk
      have hb8 := by8_lt n k
      have hdn : n / 2 ^ (8 * k) ≤ n := Nat.div_le_self _ _
      have hob := okB_r n k
      refine z_iload_n C dX7_put_8 rfl ?_
      refine z_bipush C dX7_put_9 (by decide) ?_
      refine z_icmp_ge C (tgt := 67) dX7_put_11 (by decide) (by first | omega | exact b2i_r) (by first | omega | exact b2i_r) (fun h11 => ?_) (fun h11 => ?_)
      · have hkk : putK n = k := by
          rw [← hk]
          first
          | (rw [show k = 8 by omega]; rfl)
          | (rw [show 8 - k = (7 - k) + 1 by omega, lenB_s, if_pos ((cmU_0 _).mp h22)])
        refine z_iload_n C dX7_put_67 rfl ?_
        refine z_if_eq C (tgt := 83) dX7_put_68 (by decide) (by first | omega | exact b2i_r) (fun h68 => ?_) (fun h68 => ?_)
        · have hbad : putBad n := by
            show putK n = 0 ∨ okB n (putK n) = 0 ∨ ¬ n / 2 ^ (8 * putK n) = 0
            rw [hkk]
            first
            | exact Or.inl (by omega)
            | exact Or.inr (Or.inl h73)
            | exact Or.inr (Or.inr (fun z => h80 ((cmU_0 _).mpr z)))
          have hr9 : (-2 : Int) = (if putBad n then -2 else if 80 < I o 6 + (putK n : Int) then -4 else I o 6 + (putK n : Int)) := (if_pos hbad).symm
          have hI9 : ¬ (¬ putBad n ∧ I o 6 + (putK n : Int) ≤ 80) := fun z => z.1 hbad
          refine z_bipush C dX7_put_83 (by decide) ?_
          exact z_iret2 C hQ rfl dX7_put_85 ⟨zr hr9, rfl, rfl, rfl, (if_neg hI9).symm, rfl⟩
        · refine z_iload C dX7_put_71 rfl ?_
          refine z_if_eq C (tgt := 83) dX7_put_73 (by decide) (by first | omega | exact b2i_r) (fun h73 => ?_) (fun h73 => ?_)
          · have hbad : putBad n := by
              show putK n = 0 ∨ okB n (putK n) = 0 ∨ ¬ n / 2 ^ (8 * putK n) = 0
              rw [hkk]
              first
              | exact Or.inl (by omega)
              | exact Or.inr (Or.inl h73)
              | exact Or.inr (Or.inr (fun z => h80 ((cmU_0 _).mpr z)))
            have hr9 : (-2 : Int) = (if putBad n then -2 else if 80 < I o 6 + (putK n : Int) then -4 else I o 6 + (putK n : Int)) := (if_pos hbad).symm
            have hI9 : ¬ (¬ putBad n ∧ I o 6 + (putK n : Int) ≤ 80) := fun z => z.1 hbad
            refine z_bipush C dX7_put_83 (by decide) ?_
            exact z_iret2 C hQ rfl dX7_put_85 ⟨zr hr9, rfl, rfl, rfl, (if_neg hI9).symm, rfl⟩
          · refine z_lload C dX7_put_76 rfl ?_
            refine z_lconst C 0 rfl dX7_put_78 ?_
            refine z_lcmp C (by omega) (by omega) dX7_put_79 ?_
            have hc80 := cmU_rng (n / 2 ^ (8 * k)) 0
            refine z_if_eq C (tgt := 86) dX7_put_80 (by decide) (by first | omega | exact b2i_r) (fun h80 => ?_) (fun h80 => ?_)
            · refine z_aload_n C dX7_put_86 rfl ?_
              refine z_gI C (ci := 7) (k := 6) rfl (by decide) rfl (by decide) wl_7 wq_22_5 rfl dX7_put_87 (by assumption) ?_
              refine z_iload_n C dX7_put_90 rfl ?_
              refine z_iadd C dX7_put_91 ?_
              refine z_bipush C dX7_put_92 (by decide) ?_
              refine z_icmp_le C (tgt := 100) dX7_put_94 (by decide) (by first | omega | exact b2i_r) (by first | omega | exact b2i_r) (fun h94 => ?_) (fun h94 => ?_)
              · have hbad : ¬ putBad n := by
                  show ¬ (putK n = 0 ∨ okB n (putK n) = 0 ∨ ¬ n / 2 ^ (8 * putK n) = 0)
                  rw [hkk]
                  rintro (h | h | h)
                  · exact h68 (by omega)
                  · exact h73 h
                  · exact h ((cmU_0 _).mp h80)
                have hcase : I o 6 + (k : Int) ≤ 80 := by omega
                
                refine z_iload_n C dX7_put_100 rfl ?_
                refine z_iconst C dX7_put_101 ?_
                refine z_isub C dX7_put_102 ?_
                refine z_istore C dX7_put_103 (by decide) rfl ?_
                refine z_sub [1, 2, 3, 5] (lv' := [(0, .ref o), (1, .long (zU n)), (3, .int (zI (k : Int))), (7, .int (zI ((k : Int) - 1)))]) rfl rfl ?_
                refine z_conv (I' := padM I o n k k) (lv' := [(0, .ref o), (1, .long (zU n)), (3, .int (zI (k : Int))), (7, .int (zI ((k : Int) - 1)))]) (padM_0 _ _ _ _).symm rfl rfl rfl ?_
                exact hloop2 k hbad hkk hcase h1 (k + 1) k (Nat.le_refl k) (by omega)
              · have hbad : ¬ putBad n := by
                  show ¬ (putK n = 0 ∨ okB n (putK n) = 0 ∨ ¬ n / 2 ^ (8 * putK n) = 0)
                  rw [hkk]
                  rintro (h | h | h)
                  · exact h68 (by omega)
                  · exact h73 h
                  · exact h ((cmU_0 _).mp h80)
                have hr9 : (-4 : Int) = (if putBad n then -2 else if 80 < I o 6 + (putK n : Int) then -4 else I o 6 + (putK n : Int)) := by rw [if_neg hbad, hkk, if_pos (by omega)]
                have hI9 : ¬ (¬ putBad n ∧ I o 6 + (putK n : Int) ≤ 80) := fun z => by have := z.2; rw [hkk] at this; omega
                refine z_bipush C dX7_put_97 (by decide) ?_
                exact z_iret2 C hQ rfl dX7_put_99 ⟨zr hr9, rfl, rfl, rfl, (if_neg hI9).symm, rfl⟩
            · have hbad : putBad n := by
                show putK n = 0 ∨ okB n (putK n) = 0 ∨ ¬ n / 2 ^ (8 * putK n) = 0
                rw [hkk]
                first
                | exact Or.inl (by omega)
                | exact Or.inr (Or.inl h73)
                | exact Or.inr (Or.inr (fun z => h80 ((cmU_0 _).mpr z)))
              have hr9 : (-2 : Int) = (if putBad n then -2 else if 80 < I o 6 + (putK n : Int) then -4 else I o 6 + (putK n : Int)) := (if_pos hbad).symm
              have hI9 : ¬ (¬ putBad n ∧ I o 6 + (putK n : Int) ≤ 80) := fun z => z.1 hbad
              refine z_bipush C dX7_put_83 (by decide) ?_
              exact z_iret2 C hQ rfl dX7_put_85 ⟨zr hr9, rfl, rfl, rfl, (if_neg hI9).symm, rfl⟩
      · refine z_lload C dX7_put_14 rfl ?_
        refine z_ldc2 C 255 (by decide) dX7_put_16 wq_26_3 ?_
        refine z_land C 8 rfl (by decide) (by omega) dX7_put_19 ?_
        rw [show n / 2 ^ (8 * k) % 2 ^ 8 = by8 n k from rfl]
        refine z_lconst C 0 rfl dX7_put_20 ?_
        refine z_lcmp C (by omega) (by omega) dX7_put_21 ?_
        have hc22 := cmU_rng (by8 n k) 0
        refine z_if_eq C (tgt := 67) dX7_put_22 (by decide) (by first | omega | exact b2i_r) (fun h22 => ?_) (fun h22 => ?_)
        · have hkk : putK n = k := by
            rw [← hk]
            first
            | (rw [show k = 8 by omega]; rfl)
            | (rw [show 8 - k = (7 - k) + 1 by omega, lenB_s, if_pos ((cmU_0 _).mp h22)])
          refine z_iload_n C dX7_put_67 rfl ?_
          refine z_if_eq C (tgt := 83) dX7_put_68 (by decide) (by first | omega | exact b2i_r) (fun h68 => ?_) (fun h68 => ?_)
          · have hbad : putBad n := by
              show putK n = 0 ∨ okB n (putK n) = 0 ∨ ¬ n / 2 ^ (8 * putK n) = 0
              rw [hkk]
              first
              | exact Or.inl (by omega)
              | exact Or.inr (Or.inl h73)
              | exact Or.inr (Or.inr (fun z => h80 ((cmU_0 _).mpr z)))
            have hr9 : (-2 : Int) = (if putBad n then -2 else if 80 < I o 6 + (putK n : Int) then -4 else I o 6 + (putK n : Int)) := (if_pos hbad).symm
            have hI9 : ¬ (¬ putBad n ∧ I o 6 + (putK n : Int) ≤ 80) := fun z => z.1 hbad
            refine z_bipush C dX7_put_83 (by decide) ?_
            exact z_iret2 C hQ rfl dX7_put_85 ⟨zr hr9, rfl, rfl, rfl, (if_neg hI9).symm, rfl⟩
          · refine z_iload C dX7_put_71 rfl ?_
            refine z_if_eq C (tgt := 83) dX7_put_73 (by decide) (by first | omega | exact b2i_r) (fun h73 => ?_) (fun h73 => ?_)
            · have hbad : putBad n := by
                show putK n = 0 ∨ okB n (putK n) = 0 ∨ ¬ n / 2 ^ (8 * putK n) = 0
                rw [hkk]
                first
                | exact Or.inl (by omega)
                | exact Or.inr (Or.inl h73)
                | exact Or.inr (Or.inr (fun z => h80 ((cmU_0 _).mpr z)))
              have hr9 : (-2 : Int) = (if putBad n then -2 else if 80 < I o 6 + (putK n : Int) then -4 else I o 6 + (putK n : Int)) := (if_pos hbad).symm
              have hI9 : ¬ (¬ putBad n ∧ I o 6 + (putK n : Int) ≤ 80) := fun z => z.1 hbad
              refine z_bipush C dX7_put_83 (by decide) ?_
              exact z_iret2 C hQ rfl dX7_put_85 ⟨zr hr9, rfl, rfl, rfl, (if_neg hI9).symm, rfl⟩
            · refine z_lload C dX7_put_76 rfl ?_
              refine z_lconst C 0 rfl dX7_put_78 ?_
              refine z_lcmp C (by omega) (by omega) dX7_put_79 ?_
              have hc80 := cmU_rng (n / 2 ^ (8 * k)) 0
              refine z_if_eq C (tgt := 86) dX7_put_80 (by decide) (by first | omega | exact b2i_r) (fun h80 => ?_) (fun h80 => ?_)
              · refine z_aload_n C dX7_put_86 rfl ?_
                refine z_gI C (ci := 7) (k := 6) rfl (by decide) rfl (by decide) wl_7 wq_22_5 rfl dX7_put_87 (by assumption) ?_
                refine z_iload_n C dX7_put_90 rfl ?_
                refine z_iadd C dX7_put_91 ?_
                refine z_bipush C dX7_put_92 (by decide) ?_
                refine z_icmp_le C (tgt := 100) dX7_put_94 (by decide) (by first | omega | exact b2i_r) (by first | omega | exact b2i_r) (fun h94 => ?_) (fun h94 => ?_)
                · have hbad : ¬ putBad n := by
                    show ¬ (putK n = 0 ∨ okB n (putK n) = 0 ∨ ¬ n / 2 ^ (8 * putK n) = 0)
                    rw [hkk]
                    rintro (h | h | h)
                    · exact h68 (by omega)
                    · exact h73 h
                    · exact h ((cmU_0 _).mp h80)
                  have hcase : I o 6 + (k : Int) ≤ 80 := by omega
                  
                  refine z_iload_n C dX7_put_100 rfl ?_
                  refine z_iconst C dX7_put_101 ?_
                  refine z_isub C dX7_put_102 ?_
                  refine z_istore C dX7_put_103 (by decide) rfl ?_
                  refine z_sub [1, 2, 3, 5] (lv' := [(0, .ref o), (1, .long (zU n)), (3, .int (zI (k : Int))), (7, .int (zI ((k : Int) - 1)))]) rfl rfl ?_
                  refine z_conv (I' := padM I o n k k) (lv' := [(0, .ref o), (1, .long (zU n)), (3, .int (zI (k : Int))), (7, .int (zI ((k : Int) - 1)))]) (padM_0 _ _ _ _).symm rfl rfl rfl ?_
                  exact hloop2 k hbad hkk hcase h1 (k + 1) k (Nat.le_refl k) (by omega)
                · have hbad : ¬ putBad n := by
                    show ¬ (putK n = 0 ∨ okB n (putK n) = 0 ∨ ¬ n / 2 ^ (8 * putK n) = 0)
                    rw [hkk]
                    rintro (h | h | h)
                    · exact h68 (by omega)
                    · exact h73 h
                    · exact h ((cmU_0 _).mp h80)
                  have hr9 : (-4 : Int) = (if putBad n then -2 else if 80 < I o 6 + (putK n : Int) then -4 else I o 6 + (putK n : Int)) := by rw [if_neg hbad, hkk, if_pos (by omega)]
                  have hI9 : ¬ (¬ putBad n ∧ I o 6 + (putK n : Int) ≤ 80) := fun z => by have := z.2; rw [hkk] at this; omega
                  refine z_bipush C dX7_put_97 (by decide) ?_
                  exact z_iret2 C hQ rfl dX7_put_99 ⟨zr hr9, rfl, rfl, rfl, (if_neg hI9).symm, rfl⟩
              · have hbad : putBad n := by
                  show putK n = 0 ∨ okB n (putK n) = 0 ∨ ¬ n / 2 ^ (8 * putK n) = 0
                  rw [hkk]
                  first
                  | exact Or.inl (by omega)
                  | exact Or.inr (Or.inl h73)
                  | exact Or.inr (Or.inr (fun z => h80 ((cmU_0 _).mpr z)))
                have hr9 : (-2 : Int) = (if putBad n then -2 else if 80 < I o 6 + (putK n : Int) then -4 else I o 6 + (putK n : Int)) := (if_pos hbad).symm
                have hI9 : ¬ (¬ putBad n ∧ I o 6 + (putK n : Int) ≤ 80) := fun z => z.1 hbad
                refine z_bipush C dX7_put_83 (by decide) ?_
                exact z_iret2 C hQ rfl dX7_put_85 ⟨zr hr9, rfl, rfl, rfl, (if_neg hI9).symm, rfl⟩
        · have hne9 := fun z => h22 ((cmU_0 _).mpr z)
          have hk7 : ¬ k = 8 := by omega
          rw [show 8 - k = (8 - (k + 1)) + 1 by omega, lenB_s, if_neg hne9] at hk
          refine z_iload C dX7_put_25 rfl ?_
          refine z_if_eq C (tgt := 51) dX7_put_27 (by decide) (by first | omega | exact b2i_r) (fun h27 => ?_) (fun h27 => ?_)
          · refine z_iconst C dX7_put_51 ?_
            refine z_top (y := .int (zI (okB n (k + 1)))) (congrArg (fun x => Value.int (zI x)) (by rw [okB_s]; first | exact (if_pos ⟨h27, b2i_1.mp h44⟩).symm | exact (if_neg (fun z => b2i_0.mp h44 z.2)).symm | exact (if_neg (fun z => z.1 h27)).symm)) ?_
            refine z_istore C dX7_put_52 (by decide) rfl ?_
            refine z_lload C dX7_put_54 rfl ?_
            refine z_bipush C dX7_put_56 (by decide) ?_
            refine z_lushr C (j := 8) (by omega) (by omega) dX7_put_58 ?_
            rw [show n / 2 ^ (8 * k) / 2 ^ 8 = n / 2 ^ (8 * (k + 1)) by rw [Nat.div_div_eq_div_mul, ← Nat.pow_add, show 8 * k + 8 = 8 * (k + 1) by omega]]
            refine z_lstore C (lv' := [(4, .long (zU (n / 2 ^ (8 * (k + 1))))), (0, .ref o), (1, .long (zU n)), (3, .int (zI (k : Int))), (6, .int (zI (okB n (k + 1))))]) dX7_put_59 (by decide) rfl rfl ?_
            refine z_iinc C dX7_put_61 rfl (by decide) rfl ?_
            refine z_goto C (tgt := 8) dX7_put_64 (by decide) ?_
            rw [show (k : Int) + 1 = ((k + 1 : Nat) : Int) by omega]
            exact ih (k + 1) (by omega) (by omega) hk
          · refine z_lload C dX7_put_30 rfl ?_
            refine z_ldc2 C 255 (by decide) dX7_put_32 wq_26_3 ?_
            refine z_land C 8 rfl (by decide) (by omega) dX7_put_35 ?_
            rw [show n / 2 ^ (8 * k) % 2 ^ 8 = by8 n k from rfl]
            refine z_l2i C (by omega) dX7_put_36 ?_
            refine z_bipush C dX7_put_37 (by decide) ?_
            refine z_bipush C dX7_put_39 (by decide) ?_
            refine z_callSd C (mX7_within l G (by omega) (by omega) (by omega)) (va_cwS 3 C.2.2.2.2.1 gv7_39 rfl rfl rfl hs_X7_within ⟨Nat.le_of_ble_eq_true rfl, Nat.le_of_ble_eq_true rfl⟩) rfl rfl (Nat.le_of_ble_eq_true rfl) dX7_put_41 ⟨Nat.zero_le _, Nat.zero_le _⟩ ?_
            refine z_if_eq C (tgt := 51) dX7_put_44 (by decide) (by first | omega | exact b2i_r) (fun h44 => ?_) (fun h44 => ?_)
            · refine z_iconst C dX7_put_51 ?_
              refine z_top (y := .int (zI (okB n (k + 1)))) (congrArg (fun x => Value.int (zI x)) (by rw [okB_s]; first | exact (if_pos ⟨h27, b2i_1.mp h44⟩).symm | exact (if_neg (fun z => b2i_0.mp h44 z.2)).symm | exact (if_neg (fun z => z.1 h27)).symm)) ?_
              refine z_istore C dX7_put_52 (by decide) rfl ?_
              refine z_lload C dX7_put_54 rfl ?_
              refine z_bipush C dX7_put_56 (by decide) ?_
              refine z_lushr C (j := 8) (by omega) (by omega) dX7_put_58 ?_
              rw [show n / 2 ^ (8 * k) / 2 ^ 8 = n / 2 ^ (8 * (k + 1)) by rw [Nat.div_div_eq_div_mul, ← Nat.pow_add, show 8 * k + 8 = 8 * (k + 1) by omega]]
              refine z_lstore C (lv' := [(4, .long (zU (n / 2 ^ (8 * (k + 1))))), (0, .ref o), (1, .long (zU n)), (3, .int (zI (k : Int))), (6, .int (zI (okB n (k + 1))))]) dX7_put_59 (by decide) rfl rfl ?_
              refine z_iinc C dX7_put_61 rfl (by decide) rfl ?_
              refine z_goto C (tgt := 8) dX7_put_64 (by decide) ?_
              rw [show (k : Int) + 1 = ((k + 1 : Nat) : Int) by omega]
              exact ih (k + 1) (by omega) (by omega) hk
            · refine z_iconst C dX7_put_47 ?_
              refine z_goto C (tgt := 52) dX7_put_48 (by decide) ?_
              refine z_top (y := .int (zI (okB n (k + 1)))) (congrArg (fun x => Value.int (zI x)) (by rw [okB_s]; first | exact (if_pos ⟨h27, b2i_1.mp h44⟩).symm | exact (if_neg (fun z => b2i_0.mp h44 z.2)).symm | exact (if_neg (fun z => z.1 h27)).symm)) ?_
              refine z_istore C dX7_put_52 (by decide) rfl ?_
              refine z_lload C dX7_put_54 rfl ?_
              refine z_bipush C dX7_put_56 (by decide) ?_
              refine z_lushr C (j := 8) (by omega) (by omega) dX7_put_58 ?_
              rw [show n / 2 ^ (8 * k) / 2 ^ 8 = n / 2 ^ (8 * (k + 1)) by rw [Nat.div_div_eq_div_mul, ← Nat.pow_add, show 8 * k + 8 = 8 * (k + 1) by omega]]
              refine z_lstore C (lv' := [(4, .long (zU (n / 2 ^ (8 * (k + 1))))), (0, .ref o), (1, .long (zU n)), (3, .int (zI (k : Int))), (6, .int (zI (okB n (k + 1))))]) dX7_put_59 (by decide) rfl rfl ?_
              refine z_iinc C dX7_put_61 rfl (by decide) rfl ?_
              refine z_goto C (tgt := 8) dX7_put_64 (by decide) ?_
              rw [show (k : Int) + 1 = ((k + 1 : Nat) : Int) by omega]
              exact ih (k + 1) (by omega) (by omega) hk
  refine z_iconst C dX7_put_0 ?_
  refine z_istore_n C dX7_put_1 (by decide) rfl ?_
  refine z_lload_n C dX7_put_2 rfl ?_
  refine z_lstore C (lv' := [(4, .long (zU n)), (0, .ref o), (1, .long (zU n)), (3, .int (zI 0))]) dX7_put_3 (by decide) rfl rfl ?_
  refine z_iconst C dX7_put_5 ?_
  refine z_istore C dX7_put_6 (by decide) rfl ?_
  refine z_conv (lv' := [(4, .long (zU (n / 2 ^ (8 * 0)))), (0, .ref o), (1, .long (zU n)), (3, .int (zI ((0 : Nat) : Int))), (6, .int (zI (okB n 0)))]) rfl rfl (by rw [Nat.mul_zero, Nat.pow_zero, Nat.div_one]; rfl) rfl ?_
  exact hloop 9 0 (by omega) (by omega) rfl
end
