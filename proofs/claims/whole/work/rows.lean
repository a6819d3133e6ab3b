section
-- ===== PART A: goes FIRST, ahead of the names: the tables' words, and 'selects' of the private methods out of them =====
/-- a private method of a class that the tables say can be made, by its rows of tables_1 -/
def lw_okq (q : MethodName × Nat) : Prop := (q.1.cls ≠ "java/lang/invoke/MethodHandle" ∧ q.1.cls ≠ "java/lang/invoke/VarHandle") ∧ Cond.instantiable q.1.cls q.2 ∈ tables_1 ∧ Cond.privateMethod q.1 ∈ tables_1 ∧ Cond.instanceMethod q.1 ∈ tables_1
theorem lw_p0 : lw_okq (⟨"GaugeColumns$Tester", "voidCertificates", "()V"⟩, 6) := ⟨⟨by decide +kernel, by decide +kernel⟩, List.mem_of_getElem? (i := 22) (by decide +kernel), List.mem_of_getElem? (i := 220) (by decide +kernel), List.mem_of_getElem? (i := 221) (by decide +kernel)⟩
theorem lw_p1 : lw_okq (⟨"GaugeColumns$Tester", "moveHands", "()I"⟩, 6) := ⟨⟨by decide +kernel, by decide +kernel⟩, List.mem_of_getElem? (i := 22) (by decide +kernel), List.mem_of_getElem? (i := 224) (by decide +kernel), List.mem_of_getElem? (i := 225) (by decide +kernel)⟩
theorem lw_p2 : lw_okq (⟨"GaugeColumns$Tester", "massToNext", "(I)I"⟩, 6) := ⟨⟨by decide +kernel, by decide +kernel⟩, List.mem_of_getElem? (i := 22) (by decide +kernel), List.mem_of_getElem? (i := 437) (by decide +kernel), List.mem_of_getElem? (i := 438) (by decide +kernel)⟩
theorem lw_p3 : lw_okq (⟨"GaugeColumns$Pad", "pass", "(I)Z"⟩, 5) := ⟨⟨by decide +kernel, by decide +kernel⟩, List.mem_of_getElem? (i := 151) (by decide +kernel), List.mem_of_getElem? (i := 496) (by decide +kernel), List.mem_of_getElem? (i := 497) (by decide +kernel)⟩
theorem lw_p4 : lw_okq (⟨"GaugeColumns$Pad", "signAt", "(I)I"⟩, 5) := ⟨⟨by decide +kernel, by decide +kernel⟩, List.mem_of_getElem? (i := 151) (by decide +kernel), List.mem_of_getElem? (i := 500) (by decide +kernel), List.mem_of_getElem? (i := 501) (by decide +kernel)⟩
theorem lw_p5 : lw_okq (⟨"GaugeColumns$Pad", "readNumber", "(I)Z"⟩, 5) := ⟨⟨by decide +kernel, by decide +kernel⟩, List.mem_of_getElem? (i := 151) (by decide +kernel), List.mem_of_getElem? (i := 504) (by decide +kernel), List.mem_of_getElem? (i := 505) (by decide +kernel)⟩
theorem lw_p6 : lw_okq (⟨"GaugeColumns$Pad", "readDigit", "()Z"⟩, 5) := ⟨⟨by decide +kernel, by decide +kernel⟩, List.mem_of_getElem? (i := 151) (by decide +kernel), List.mem_of_getElem? (i := 511) (by decide +kernel), List.mem_of_getElem? (i := 512) (by decide +kernel)⟩
theorem lw_p7 : lw_okq (⟨"GaugeColumns$Pad", "readValue", "()Z"⟩, 5) := ⟨⟨by decide +kernel, by decide +kernel⟩, List.mem_of_getElem? (i := 151) (by decide +kernel), List.mem_of_getElem? (i := 515) (by decide +kernel), List.mem_of_getElem? (i := 516) (by decide +kernel)⟩
theorem lw_p8 : lw_okq (⟨"GaugeColumns", "carryOutOrder", "()I"⟩, 5) := ⟨⟨by decide +kernel, by decide +kernel⟩, List.mem_of_getElem? (i := 14) (by decide +kernel), List.mem_of_getElem? (i := 525) (by decide +kernel), List.mem_of_getElem? (i := 526) (by decide +kernel)⟩
theorem lw_p9 : lw_okq (⟨"GaugeColumnsModel", "record", "()V"⟩, 16) := ⟨⟨by decide +kernel, by decide +kernel⟩, List.mem_of_getElem? (i := 546) (by decide +kernel), List.mem_of_getElem? (i := 611) (by decide +kernel), List.mem_of_getElem? (i := 612) (by decide +kernel)⟩
theorem lw_p10 : lw_okq (⟨"GaugeColumnsModel", "sets", "(II)I"⟩, 16) := ⟨⟨by decide +kernel, by decide +kernel⟩, List.mem_of_getElem? (i := 546) (by decide +kernel), List.mem_of_getElem? (i := 618) (by decide +kernel), List.mem_of_getElem? (i := 619) (by decide +kernel)⟩
theorem lw_p11 : lw_okq (⟨"GaugeColumnsModel", "voidsAll", "()V"⟩, 16) := ⟨⟨by decide +kernel, by decide +kernel⟩, List.mem_of_getElem? (i := 546) (by decide +kernel), List.mem_of_getElem? (i := 622) (by decide +kernel), List.mem_of_getElem? (i := 623) (by decide +kernel)⟩
theorem lw_p12 : lw_okq (⟨"GaugeColumnsModel", "voids", "(I)V"⟩, 16) := ⟨⟨by decide +kernel, by decide +kernel⟩, List.mem_of_getElem? (i := 546) (by decide +kernel), List.mem_of_getElem? (i := 626) (by decide +kernel), List.mem_of_getElem? (i := 627) (by decide +kernel)⟩
theorem lw_p13 : lw_okq (⟨"GaugeColumnsModel", "setPart", "(III)V"⟩, 16) := ⟨⟨by decide +kernel, by decide +kernel⟩, List.mem_of_getElem? (i := 546) (by decide +kernel), List.mem_of_getElem? (i := 630) (by decide +kernel), List.mem_of_getElem? (i := 631) (by decide +kernel)⟩
theorem lw_p14 : lw_okq (⟨"GaugeColumnsModel", "handsGo", "()V"⟩, 16) := ⟨⟨by decide +kernel, by decide +kernel⟩, List.mem_of_getElem? (i := 546) (by decide +kernel), List.mem_of_getElem? (i := 634) (by decide +kernel), List.mem_of_getElem? (i := 635) (by decide +kernel)⟩
theorem lw_p15 : lw_okq (⟨"GaugeColumnsModel", "handGoes", "(I)V"⟩, 16) := ⟨⟨by decide +kernel, by decide +kernel⟩, List.mem_of_getElem? (i := 546) (by decide +kernel), List.mem_of_getElem? (i := 638) (by decide +kernel), List.mem_of_getElem? (i := 639) (by decide +kernel)⟩
def lw_privs_1 : List (MethodName × Nat) := [(⟨"GaugeColumns$Tester", "voidCertificates", "()V"⟩, 6), (⟨"GaugeColumns$Tester", "moveHands", "()I"⟩, 6), (⟨"GaugeColumns$Tester", "massToNext", "(I)I"⟩, 6), (⟨"GaugeColumns$Pad", "pass", "(I)Z"⟩, 5), (⟨"GaugeColumns$Pad", "signAt", "(I)I"⟩, 5), (⟨"GaugeColumns$Pad", "readNumber", "(I)Z"⟩, 5), (⟨"GaugeColumns$Pad", "readDigit", "()Z"⟩, 5), (⟨"GaugeColumns$Pad", "readValue", "()Z"⟩, 5), (⟨"GaugeColumns", "carryOutOrder", "()I"⟩, 5), (⟨"GaugeColumnsModel", "record", "()V"⟩, 16), (⟨"GaugeColumnsModel", "sets", "(II)I"⟩, 16), (⟨"GaugeColumnsModel", "voidsAll", "()V"⟩, 16), (⟨"GaugeColumnsModel", "voids", "(I)V"⟩, 16), (⟨"GaugeColumnsModel", "setPart", "(III)V"⟩, 16), (⟨"GaugeColumnsModel", "handsGo", "()V"⟩, 16), (⟨"GaugeColumnsModel", "handGoes", "(I)V"⟩, 16)]
theorem lw_r1 : ∀ q ∈ lw_privs_1, lw_okq q := List.forall_mem_cons.mpr ⟨lw_p0, List.forall_mem_cons.mpr ⟨lw_p1, List.forall_mem_cons.mpr ⟨lw_p2, List.forall_mem_cons.mpr ⟨lw_p3, List.forall_mem_cons.mpr ⟨lw_p4, List.forall_mem_cons.mpr ⟨lw_p5, List.forall_mem_cons.mpr ⟨lw_p6, List.forall_mem_cons.mpr ⟨lw_p7, List.forall_mem_cons.mpr ⟨lw_p8, List.forall_mem_cons.mpr ⟨lw_p9, List.forall_mem_cons.mpr ⟨lw_p10, List.forall_mem_cons.mpr ⟨lw_p11, List.forall_mem_cons.mpr ⟨lw_p12, List.forall_mem_cons.mpr ⟨lw_p13, List.forall_mem_cons.mpr ⟨lw_p14, List.forall_mem_cons.mpr ⟨lw_p15, fun _ h => absurd h List.not_mem_nil⟩⟩⟩⟩⟩⟩⟩⟩⟩⟩⟩⟩⟩⟩⟩⟩
theorem lw_p16 : lw_okq (⟨"GaugeColumnsModel", "part", "(II)I"⟩, 16) := ⟨⟨by decide +kernel, by decide +kernel⟩, List.mem_of_getElem? (i := 546) (by decide +kernel), List.mem_of_getElem? (i := 642) (by decide +kernel), List.mem_of_getElem? (i := 643) (by decide +kernel)⟩
theorem lw_p17 : lw_okq (⟨"GaugeColumnsModel", "pressureOf", "(I)I"⟩, 16) := ⟨⟨by decide +kernel, by decide +kernel⟩, List.mem_of_getElem? (i := 546) (by decide +kernel), List.mem_of_getElem? (i := 646) (by decide +kernel), List.mem_of_getElem? (i := 647) (by decide +kernel)⟩
theorem lw_p18 : lw_okq (⟨"GaugeColumnsModel", "massOf", "(I)I"⟩, 16) := ⟨⟨by decide +kernel, by decide +kernel⟩, List.mem_of_getElem? (i := 546) (by decide +kernel), List.mem_of_getElem? (i := 650) (by decide +kernel), List.mem_of_getElem? (i := 651) (by decide +kernel)⟩
theorem lw_p19 : lw_okq (⟨"GaugeColumnsModel", "pressureBy", "(II)I"⟩, 16) := ⟨⟨by decide +kernel, by decide +kernel⟩, List.mem_of_getElem? (i := 546) (by decide +kernel), List.mem_of_getElem? (i := 654) (by decide +kernel), List.mem_of_getElem? (i := 655) (by decide +kernel)⟩
theorem lw_p20 : lw_okq (⟨"GaugeColumnsModel", "weightOf", "(II)I"⟩, 16) := ⟨⟨by decide +kernel, by decide +kernel⟩, List.mem_of_getElem? (i := 546) (by decide +kernel), List.mem_of_getElem? (i := 658) (by decide +kernel), List.mem_of_getElem? (i := 659) (by decide +kernel)⟩
theorem lw_p21 : lw_okq (⟨"GaugeColumnsModel", "whyNoRing", "(I)I"⟩, 16) := ⟨⟨by decide +kernel, by decide +kernel⟩, List.mem_of_getElem? (i := 546) (by decide +kernel), List.mem_of_getElem? (i := 679) (by decide +kernel), List.mem_of_getElem? (i := 680) (by decide +kernel)⟩
theorem lw_p22 : lw_okq (⟨"GaugeColumnsModel", "comes", "(I)I"⟩, 16) := ⟨⟨by decide +kernel, by decide +kernel⟩, List.mem_of_getElem? (i := 546) (by decide +kernel), List.mem_of_getElem? (i := 683) (by decide +kernel), List.mem_of_getElem? (i := 684) (by decide +kernel)⟩
theorem lw_p23 : lw_okq (⟨"GaugeColumnsModel", "whyNotMoved", "(IZ)I"⟩, 16) := ⟨⟨by decide +kernel, by decide +kernel⟩, List.mem_of_getElem? (i := 546) (by decide +kernel), List.mem_of_getElem? (i := 695) (by decide +kernel), List.mem_of_getElem? (i := 696) (by decide +kernel)⟩
theorem lw_p24 : lw_okq (⟨"GaugeColumnsModel", "isRing", "(I)Z"⟩, 16) := ⟨⟨by decide +kernel, by decide +kernel⟩, List.mem_of_getElem? (i := 546) (by decide +kernel), List.mem_of_getElem? (i := 699) (by decide +kernel), List.mem_of_getElem? (i := 700) (by decide +kernel)⟩
theorem lw_p25 : lw_okq (⟨"GaugeColumnsModel", "isStacked", "(I)Z"⟩, 16) := ⟨⟨by decide +kernel, by decide +kernel⟩, List.mem_of_getElem? (i := 546) (by decide +kernel), List.mem_of_getElem? (i := 703) (by decide +kernel), List.mem_of_getElem? (i := 704) (by decide +kernel)⟩
theorem lw_p26 : lw_okq (⟨"GaugeColumnsModel", "isMoved", "(I)I"⟩, 16) := ⟨⟨by decide +kernel, by decide +kernel⟩, List.mem_of_getElem? (i := 546) (by decide +kernel), List.mem_of_getElem? (i := 707) (by decide +kernel), List.mem_of_getElem? (i := 708) (by decide +kernel)⟩
theorem lw_p27 : lw_okq (⟨"GaugeColumnsModel", "whyNoGauge", "(III)I"⟩, 16) := ⟨⟨by decide +kernel, by decide +kernel⟩, List.mem_of_getElem? (i := 546) (by decide +kernel), List.mem_of_getElem? (i := 719) (by decide +kernel), List.mem_of_getElem? (i := 720) (by decide +kernel)⟩
theorem lw_p28 : lw_okq (⟨"GaugeColumnsModel", "comesGauge", "(III)I"⟩, 16) := ⟨⟨by decide +kernel, by decide +kernel⟩, List.mem_of_getElem? (i := 546) (by decide +kernel), List.mem_of_getElem? (i := 726) (by decide +kernel), List.mem_of_getElem? (i := 727) (by decide +kernel)⟩
theorem lw_p29 : lw_okq (⟨"GaugeColumnsModel", "isGauge", "(I)Z"⟩, 16) := ⟨⟨by decide +kernel, by decide +kernel⟩, List.mem_of_getElem? (i := 546) (by decide +kernel), List.mem_of_getElem? (i := 734) (by decide +kernel), List.mem_of_getElem? (i := 735) (by decide +kernel)⟩
theorem lw_p30 : lw_okq (⟨"GaugeColumnsModel", "whyNotCertified", "(I)I"⟩, 16) := ⟨⟨by decide +kernel, by decide +kernel⟩, List.mem_of_getElem? (i := 546) (by decide +kernel), List.mem_of_getElem? (i := 742) (by decide +kernel), List.mem_of_getElem? (i := 743) (by decide +kernel)⟩
theorem lw_p31 : lw_okq (⟨"GaugeColumnsModel", "certifies", "(I)I"⟩, 16) := ⟨⟨by decide +kernel, by decide +kernel⟩, List.mem_of_getElem? (i := 546) (by decide +kernel), List.mem_of_getElem? (i := 746) (by decide +kernel), List.mem_of_getElem? (i := 747) (by decide +kernel)⟩
def lw_privs_2 : List (MethodName × Nat) := [(⟨"GaugeColumnsModel", "part", "(II)I"⟩, 16), (⟨"GaugeColumnsModel", "pressureOf", "(I)I"⟩, 16), (⟨"GaugeColumnsModel", "massOf", "(I)I"⟩, 16), (⟨"GaugeColumnsModel", "pressureBy", "(II)I"⟩, 16), (⟨"GaugeColumnsModel", "weightOf", "(II)I"⟩, 16), (⟨"GaugeColumnsModel", "whyNoRing", "(I)I"⟩, 16), (⟨"GaugeColumnsModel", "comes", "(I)I"⟩, 16), (⟨"GaugeColumnsModel", "whyNotMoved", "(IZ)I"⟩, 16), (⟨"GaugeColumnsModel", "isRing", "(I)Z"⟩, 16), (⟨"GaugeColumnsModel", "isStacked", "(I)Z"⟩, 16), (⟨"GaugeColumnsModel", "isMoved", "(I)I"⟩, 16), (⟨"GaugeColumnsModel", "whyNoGauge", "(III)I"⟩, 16), (⟨"GaugeColumnsModel", "comesGauge", "(III)I"⟩, 16), (⟨"GaugeColumnsModel", "isGauge", "(I)Z"⟩, 16), (⟨"GaugeColumnsModel", "whyNotCertified", "(I)I"⟩, 16), (⟨"GaugeColumnsModel", "certifies", "(I)I"⟩, 16)]
theorem lw_r2 : ∀ q ∈ lw_privs_2, lw_okq q := List.forall_mem_cons.mpr ⟨lw_p16, List.forall_mem_cons.mpr ⟨lw_p17, List.forall_mem_cons.mpr ⟨lw_p18, List.forall_mem_cons.mpr ⟨lw_p19, List.forall_mem_cons.mpr ⟨lw_p20, List.forall_mem_cons.mpr ⟨lw_p21, List.forall_mem_cons.mpr ⟨lw_p22, List.forall_mem_cons.mpr ⟨lw_p23, List.forall_mem_cons.mpr ⟨lw_p24, List.forall_mem_cons.mpr ⟨lw_p25, List.forall_mem_cons.mpr ⟨lw_p26, List.forall_mem_cons.mpr ⟨lw_p27, List.forall_mem_cons.mpr ⟨lw_p28, List.forall_mem_cons.mpr ⟨lw_p29, List.forall_mem_cons.mpr ⟨lw_p30, List.forall_mem_cons.mpr ⟨lw_p31, fun _ h => absurd h List.not_mem_nil⟩⟩⟩⟩⟩⟩⟩⟩⟩⟩⟩⟩⟩⟩⟩⟩
theorem lw_p32 : lw_okq (⟨"GaugeColumnsModel", "tests", "(II)V"⟩, 16) := ⟨⟨by decide +kernel, by decide +kernel⟩, List.mem_of_getElem? (i := 546) (by decide +kernel), List.mem_of_getElem? (i := 750) (by decide +kernel), List.mem_of_getElem? (i := 751) (by decide +kernel)⟩
theorem lw_p33 : lw_okq (⟨"GaugeColumnsModel", "findOrder", "()V"⟩, 16) := ⟨⟨by decide +kernel, by decide +kernel⟩, List.mem_of_getElem? (i := 546) (by decide +kernel), List.mem_of_getElem? (i := 754) (by decide +kernel), List.mem_of_getElem? (i := 755) (by decide +kernel)⟩
theorem lw_p34 : lw_okq (⟨"GaugeColumnsModel", "placeOf", "(I)I"⟩, 16) := ⟨⟨by decide +kernel, by decide +kernel⟩, List.mem_of_getElem? (i := 546) (by decide +kernel), List.mem_of_getElem? (i := 765) (by decide +kernel), List.mem_of_getElem? (i := 766) (by decide +kernel)⟩
theorem lw_p35 : lw_okq (⟨"GaugeColumnsModel", "certificates", "()I"⟩, 16) := ⟨⟨by decide +kernel, by decide +kernel⟩, List.mem_of_getElem? (i := 546) (by decide +kernel), List.mem_of_getElem? (i := 781) (by decide +kernel), List.mem_of_getElem? (i := 782) (by decide +kernel)⟩
theorem lw_p36 : lw_okq (⟨"GaugeColumnsModel", "findFault", "()I"⟩, 16) := ⟨⟨by decide +kernel, by decide +kernel⟩, List.mem_of_getElem? (i := 546) (by decide +kernel), List.mem_of_getElem? (i := 821) (by decide +kernel), List.mem_of_getElem? (i := 822) (by decide +kernel)⟩
theorem lw_p37 : lw_okq (⟨"GaugeColumnsModel", "readsOrder", "()Z"⟩, 16) := ⟨⟨by decide +kernel, by decide +kernel⟩, List.mem_of_getElem? (i := 546) (by decide +kernel), List.mem_of_getElem? (i := 825) (by decide +kernel), List.mem_of_getElem? (i := 826) (by decide +kernel)⟩
theorem lw_p38 : lw_okq (⟨"GaugeColumnsModel", "character", "(I)I"⟩, 16) := ⟨⟨by decide +kernel, by decide +kernel⟩, List.mem_of_getElem? (i := 546) (by decide +kernel), List.mem_of_getElem? (i := 829) (by decide +kernel), List.mem_of_getElem? (i := 830) (by decide +kernel)⟩
theorem lw_p39 : lw_okq (⟨"GaugeColumnsModel", "takeNumber", "()I"⟩, 16) := ⟨⟨by decide +kernel, by decide +kernel⟩, List.mem_of_getElem? (i := 546) (by decide +kernel), List.mem_of_getElem? (i := 833) (by decide +kernel), List.mem_of_getElem? (i := 834) (by decide +kernel)⟩
theorem lw_p40 : lw_okq (⟨"GaugeColumnsModel", "takeDigit", "()I"⟩, 16) := ⟨⟨by decide +kernel, by decide +kernel⟩, List.mem_of_getElem? (i := 546) (by decide +kernel), List.mem_of_getElem? (i := 837) (by decide +kernel), List.mem_of_getElem? (i := 838) (by decide +kernel)⟩
theorem lw_p41 : lw_okq (⟨"GaugeColumnsModel", "readsGauge", "()Z"⟩, 16) := ⟨⟨by decide +kernel, by decide +kernel⟩, List.mem_of_getElem? (i := 546) (by decide +kernel), List.mem_of_getElem? (i := 841) (by decide +kernel), List.mem_of_getElem? (i := 842) (by decide +kernel)⟩
theorem lw_p42 : lw_okq (⟨"GaugeColumnsModel", "isNext", "(I)Z"⟩, 16) := ⟨⟨by decide +kernel, by decide +kernel⟩, List.mem_of_getElem? (i := 546) (by decide +kernel), List.mem_of_getElem? (i := 845) (by decide +kernel), List.mem_of_getElem? (i := 846) (by decide +kernel)⟩
theorem lw_p43 : lw_okq (⟨"GaugeColumnsModel", "whyNotDone", "()I"⟩, 16) := ⟨⟨by decide +kernel, by decide +kernel⟩, List.mem_of_getElem? (i := 546) (by decide +kernel), List.mem_of_getElem? (i := 853) (by decide +kernel), List.mem_of_getElem? (i := 854) (by decide +kernel)⟩
theorem lw_p44 : lw_okq (⟨"GaugeColumnsModel", "does", "()V"⟩, 16) := ⟨⟨by decide +kernel, by decide +kernel⟩, List.mem_of_getElem? (i := 546) (by decide +kernel), List.mem_of_getElem? (i := 857) (by decide +kernel), List.mem_of_getElem? (i := 858) (by decide +kernel)⟩
def lw_privs_3 : List (MethodName × Nat) := [(⟨"GaugeColumnsModel", "tests", "(II)V"⟩, 16), (⟨"GaugeColumnsModel", "findOrder", "()V"⟩, 16), (⟨"GaugeColumnsModel", "placeOf", "(I)I"⟩, 16), (⟨"GaugeColumnsModel", "certificates", "()I"⟩, 16), (⟨"GaugeColumnsModel", "findFault", "()I"⟩, 16), (⟨"GaugeColumnsModel", "readsOrder", "()Z"⟩, 16), (⟨"GaugeColumnsModel", "character", "(I)I"⟩, 16), (⟨"GaugeColumnsModel", "takeNumber", "()I"⟩, 16), (⟨"GaugeColumnsModel", "takeDigit", "()I"⟩, 16), (⟨"GaugeColumnsModel", "readsGauge", "()Z"⟩, 16), (⟨"GaugeColumnsModel", "isNext", "(I)Z"⟩, 16), (⟨"GaugeColumnsModel", "whyNotDone", "()I"⟩, 16), (⟨"GaugeColumnsModel", "does", "()V"⟩, 16)]
theorem lw_r3 : ∀ q ∈ lw_privs_3, lw_okq q := List.forall_mem_cons.mpr ⟨lw_p32, List.forall_mem_cons.mpr ⟨lw_p33, List.forall_mem_cons.mpr ⟨lw_p34, List.forall_mem_cons.mpr ⟨lw_p35, List.forall_mem_cons.mpr ⟨lw_p36, List.forall_mem_cons.mpr ⟨lw_p37, List.forall_mem_cons.mpr ⟨lw_p38, List.forall_mem_cons.mpr ⟨lw_p39, List.forall_mem_cons.mpr ⟨lw_p40, List.forall_mem_cons.mpr ⟨lw_p41, List.forall_mem_cons.mpr ⟨lw_p42, List.forall_mem_cons.mpr ⟨lw_p43, List.forall_mem_cons.mpr ⟨lw_p44, fun _ h => absurd h List.not_mem_nil⟩⟩⟩⟩⟩⟩⟩⟩⟩⟩⟩⟩⟩
def lw_privs : List (MethodName × Nat) := lw_privs_1 ++ (lw_privs_2 ++ (lw_privs_3))
def lw_tbl : List Cond := k2_sels lw_privs ++ tables_1
theorem lw_privs_ok : ∀ q ∈ lw_privs, lw_okq q := by
  show ∀ q ∈ lw_privs_1 ++ (lw_privs_2 ++ (lw_privs_3)), lw_okq q
  exact List.forall_mem_append.mpr ⟨lw_r1, List.forall_mem_append.mpr ⟨lw_r2, lw_r3⟩⟩
-- ===== end of PART A; then your names; then what follows =====
/-! ===== BEGIN words of one list among another's, by their places ===== -/
theorem goodIn_r {big : List Cond} (ws : List Cond) (ps : List Nat) (hp : ws = ps.filterMap (fun i => big[i]?)) (h : ws.all goodWord = true) : GoodIn big ws := by
  intro w hw
  have h1 := List.all_eq_true.mp h w hw
  rw [hp] at hw
  obtain ⟨i, -, hi⟩ := List.mem_filterMap.mp hw
  have hm : w ∈ big := by first | exact List.mem_of_getElem? hi | exact List.getElem?_mem hi
  exact ⟨hm, good_of_word h1⟩
theorem goodIn_app {big a b : List Cond} (ha : GoodIn big a) (hb : GoodIn big b) : GoodIn big (a ++ b) := fun w h => (List.mem_append.mp h).elim (ha w) (hb w)
theorem goodIn_ca {big a b : List Cond} {c : Cond} (ha : GoodIn big (c :: a)) (hb : GoodIn big b) : GoodIn big (c :: (a ++ b)) := fun w h => (List.mem_cons.mp h).elim (fun e => ha w (List.mem_cons.mpr (Or.inl e))) (fun h => (List.mem_append.mp h).elim (fun h => ha w (List.mem_cons.mpr (Or.inr h))) (hb w))
theorem goodIn_sub {big ws : List Cond} (hm : ∀ w ∈ ws, w ∈ big) (h : ws.all goodWord = true) : GoodIn big ws := fun w hw => ⟨hm w hw, good_of_word (List.all_eq_true.mp h w hw)⟩
/-! ===== END ===== -/

/-! ===== BEGIN printed: names, fields, word lists, decode rows ===== -/
def RX0 : String := "GaugeColumns$Certificate"
def TX0 : u_T := fun k => match k with
  | 0 => ("GaugeColumns$Certificate", "readings", "[I", true)
  | 1 => ("GaugeColumns$Certificate", "greatest", "I", true)
  | _ => ("GaugeColumns$Certificate", "air", "I", true)
def tyX0 : Nat → FieldType := fun k => match k with
  | 0 => .array .int
  | 1 => .int
  | _ => .int
abbrev wsX00 : List Cond := u_ws RX0 TX0 3
theorem nmX0 : ∀ a, a < 3 → ∀ b, b < 3 → a ≠ b → (TX0 a).2.1 ≠ (TX0 b).2.1 := by decide +kernel
theorem tyX0_ok : ∀ k, k < 3 → parseFieldDescriptor (TX0 k).2.2.1 = some (tyX0 k) := by decide +kernel
abbrev cX0_init : ByteArray := prog_2_method_1_code
def yX0_init : MethodName := ⟨RX0, "<init>", "(LGaugeColumns$Trial;I)V"⟩
def RX1 : String := "GaugeColumns$Gauge"
def TX1 : u_T := fun k => match k with
  | 0 => ("GaugeColumns$Gauge", "error", "I", false)
  | 1 => ("GaugeColumns$Gauge", "play", "I", false)
  | 2 => ("GaugeColumns$Gauge", "step", "I", false)
  | 3 => ("GaugeColumns$Gauge", "hand", "I", false)
  | _ => ("GaugeColumns$Gauge", "certificate", "LGaugeColumns$Certificate;", false)
def tyX1 : Nat → FieldType := fun k => match k with
  | 0 => .int
  | 1 => .int
  | 2 => .int
  | 3 => .int
  | _ => .object "GaugeColumns$Certificate"
abbrev wsX10 : List Cond := u_ws RX1 TX1 5
theorem nmX1 : ∀ a, a < 5 → ∀ b, b < 5 → a ≠ b → (TX1 a).2.1 ≠ (TX1 b).2.1 := by decide +kernel
theorem tyX1_ok : ∀ k, k < 5 → parseFieldDescriptor (TX1 k).2.2.1 = some (tyX1 k) := by decide +kernel
abbrev cX1_init : ByteArray := prog_3_method_1_code
def yX1_init : MethodName := ⟨RX1, "<init>", "()V"⟩
abbrev cX1_begin : ByteArray := prog_3_method_2_code
def yX1_begin : MethodName := ⟨RX1, "begin", "(III)V"⟩
abbrev cX1_copyFrom : ByteArray := prog_3_method_3_code
def yX1_copyFrom : MethodName := ⟨RX1, "copyFrom", "(LGaugeColumns$Gauge;)V"⟩
abbrev cX1_follow : ByteArray := prog_3_method_4_code
def yX1_follow : MethodName := ⟨RX1, "follow", "(I)V"⟩
abbrev cX1_shown : ByteArray := prog_3_method_5_code
def yX1_shown : MethodName := ⟨RX1, "shown", "()I"⟩
abbrev cX1_tell : ByteArray := prog_3_method_6_code
def yX1_tell : MethodName := ⟨RX1, "tell", "(I)I"⟩
def RX2 : String := "GaugeColumns$History"
def TX2 : u_T := fun k => match k with
  | 0 => ("GaugeColumns$History", "states", "[LGaugeColumns$Tester;", true)
  | 1 => ("GaugeColumns$History", "next", "I", false)
  | _ => ("GaugeColumns$History", "kept", "I", false)
def tyX2 : Nat → FieldType := fun k => match k with
  | 0 => .array (.object "GaugeColumns$Tester")
  | 1 => .int
  | _ => .int
abbrev wsX20 : List Cond := u_ws RX2 TX2 3
theorem nmX2 : ∀ a, a < 3 → ∀ b, b < 3 → a ≠ b → (TX2 a).2.1 ≠ (TX2 b).2.1 := by decide +kernel
theorem tyX2_ok : ∀ k, k < 3 → parseFieldDescriptor (TX2 k).2.2.1 = some (tyX2 k) := by decide +kernel
abbrev cX2_init : ByteArray := prog_4_method_1_code
def yX2_init : MethodName := ⟨RX2, "<init>", "()V"⟩
abbrev cX2_remember : ByteArray := prog_4_method_2_code
def yX2_remember : MethodName := ⟨RX2, "remember", "(LGaugeColumns$Tester;)V"⟩
abbrev cX2_settle : ByteArray := prog_4_method_3_code
def yX2_settle : MethodName := ⟨RX2, "settle", "(I)I"⟩
abbrev cX2_stepBack : ByteArray := prog_4_method_4_code
def yX2_stepBack : MethodName := ⟨RX2, "stepBack", "(LGaugeColumns$Tester;)I"⟩
def RX3 : String := "GaugeColumns$Pad"
def TX3 : u_T := fun k => match k with
  | 0 => ("GaugeColumns$Pad", "numbers", "[I", true)
  | 1 => ("GaugeColumns$Pad", "kind", "I", false)
  | 2 => ("GaugeColumns$Pad", "length", "I", false)
  | 3 => ("GaugeColumns$Pad", "signs", "[C", true)
  | _ => ("GaugeColumns$Pad", "cursor", "I", false)
def tyX3 : Nat → FieldType := fun k => match k with
  | 0 => .array .int
  | 1 => .int
  | 2 => .int
  | 3 => .array .char
  | _ => .int
abbrev wsX30 : List Cond := u_ws RX3 TX3 5
theorem nmX3 : ∀ a, a < 5 → ∀ b, b < 5 → a ≠ b → (TX3 a).2.1 ≠ (TX3 b).2.1 := by decide +kernel
theorem tyX3_ok : ∀ k, k < 5 → parseFieldDescriptor (TX3 k).2.2.1 = some (tyX3 k) := by decide +kernel
abbrev cX3_init : ByteArray := prog_5_method_1_code
def yX3_init : MethodName := ⟨RX3, "<init>", "()V"⟩
abbrev cX3_append : ByteArray := prog_5_method_2_code
def yX3_append : MethodName := ⟨RX3, "append", "(J)I"⟩
abbrev cX3_howMany : ByteArray := prog_5_method_3_code
def yX3_howMany : MethodName := ⟨RX3, "howMany", "(J)I"⟩
abbrev cX3_clear : ByteArray := prog_5_method_4_code
def yX3_clear : MethodName := ⟨RX3, "clear", "()I"⟩
abbrev cX3_findFault : ByteArray := prog_5_method_5_code
def yX3_findFault : MethodName := ⟨RX3, "findFault", "()I"⟩
abbrev cX3_rewind : ByteArray := prog_5_method_6_code
def yX3_rewind : MethodName := ⟨RX3, "rewind", "()V"⟩
abbrev cX3_nextOrder : ByteArray := prog_5_method_7_code
def yX3_nextOrder : MethodName := ⟨RX3, "nextOrder", "()Z"⟩
abbrev cX3_readValue : ByteArray := prog_5_method_8_code
def yX3_readValue : MethodName := ⟨RX3, "readValue", "()Z"⟩
abbrev cX3_readNumber : ByteArray := prog_5_method_9_code
def yX3_readNumber : MethodName := ⟨RX3, "readNumber", "(I)Z"⟩
abbrev cX3_readDigit : ByteArray := prog_5_method_10_code
def yX3_readDigit : MethodName := ⟨RX3, "readDigit", "()Z"⟩
abbrev cX3_pass : ByteArray := prog_5_method_11_code
def yX3_pass : MethodName := ⟨RX3, "pass", "(I)Z"⟩
abbrev cX3_signAt : ByteArray := prog_5_method_12_code
def yX3_signAt : MethodName := ⟨RX3, "signAt", "(I)I"⟩
abbrev cX3_isDigit : ByteArray := prog_5_method_13_code
def yX3_isDigit : MethodName := ⟨RX3, "isDigit", "(I)Z"⟩
def RX4 : String := "GaugeColumns$Tester"
def TX4 : u_T := fun k => match k with
  | 0 => ("GaugeColumns$Tester", "settings", "[I", true)
  | 1 => ("GaugeColumns$Tester", "grams", "[I", true)
  | 2 => ("GaugeColumns$Tester", "gauges", "[LGaugeColumns$Gauge;", true)
  | 3 => ("GaugeColumns$Tester", "ringCount", "I", false)
  | 4 => ("GaugeColumns$Tester", "column", "I", false)
  | _ => ("GaugeColumns$Tester", "gaugeCount", "I", false)
def tyX4 : Nat → FieldType := fun k => match k with
  | 0 => .array .int
  | 1 => .array .int
  | 2 => .array (.object "GaugeColumns$Gauge")
  | 3 => .int
  | 4 => .int
  | _ => .int
abbrev wsX40 : List Cond := u_ws RX4 TX4 6
theorem nmX4 : ∀ a, a < 6 → ∀ b, b < 6 → a ≠ b → (TX4 a).2.1 ≠ (TX4 b).2.1 := by decide +kernel
theorem tyX4_ok : ∀ k, k < 6 → parseFieldDescriptor (TX4 k).2.2.1 = some (tyX4 k) := by decide +kernel
abbrev cX4_init : ByteArray := prog_6_method_1_code
def yX4_init : MethodName := ⟨RX4, "<init>", "()V"⟩
abbrev cX4_copyFrom : ByteArray := prog_6_method_2_code
def yX4_copyFrom : MethodName := ⟨RX4, "copyFrom", "(LGaugeColumns$Tester;)V"⟩
abbrev cX4_change : ByteArray := prog_6_method_3_code
def yX4_change : MethodName := ⟨RX4, "change", "(II)I"⟩
abbrev cX4_addRing : ByteArray := prog_6_method_4_code
def yX4_addRing : MethodName := ⟨RX4, "addRing", "(I)I"⟩
abbrev cX4_dropRing : ByteArray := prog_6_method_5_code
def yX4_dropRing : MethodName := ⟨RX4, "dropRing", "()I"⟩
abbrev cX4_putOn : ByteArray := prog_6_method_6_code
def yX4_putOn : MethodName := ⟨RX4, "putOn", "(I)I"⟩
abbrev cX4_takeOff : ByteArray := prog_6_method_7_code
def yX4_takeOff : MethodName := ⟨RX4, "takeOff", "(I)I"⟩
abbrev cX4_addGauge : ByteArray := prog_6_method_8_code
def yX4_addGauge : MethodName := ⟨RX4, "addGauge", "(III)I"⟩
abbrev cX4_adjust : ByteArray := prog_6_method_9_code
def yX4_adjust : MethodName := ⟨RX4, "adjust", "(II)I"⟩
abbrev cX4_certifyBy : ByteArray := prog_6_method_10_code
def yX4_certifyBy : MethodName := ⟨RX4, "certifyBy", "(LGaugeColumns$Trial;I)I"⟩
abbrev cX4_hasRing : ByteArray := prog_6_method_11_code
def yX4_hasRing : MethodName := ⟨RX4, "hasRing", "(I)Z"⟩
abbrev cX4_isStacked : ByteArray := prog_6_method_12_code
def yX4_isStacked : MethodName := ⟨RX4, "isStacked", "(I)Z"⟩
abbrev cX4_placeOf : ByteArray := prog_6_method_13_code
def yX4_placeOf : MethodName := ⟨RX4, "placeOf", "(I)I"⟩
abbrev cX4_gaugeAt : ByteArray := prog_6_method_14_code
def yX4_gaugeAt : MethodName := ⟨RX4, "gaugeAt", "(I)LGaugeColumns$Gauge;"⟩
abbrev cX4_countCertificates : ByteArray := prog_6_method_15_code
def yX4_countCertificates : MethodName := ⟨RX4, "countCertificates", "()I"⟩
abbrev cX4_massOf : ByteArray := prog_6_method_16_code
def yX4_massOf : MethodName := ⟨RX4, "massOf", "(I)I"⟩
abbrev cX4_pressureOf : ByteArray := prog_6_method_17_code
def yX4_pressureOf : MethodName := ⟨RX4, "pressureOf", "(II)I"⟩
abbrev cX4_columnPressure : ByteArray := prog_6_method_18_code
def yX4_columnPressure : MethodName := ⟨RX4, "columnPressure", "()I"⟩
abbrev cX4_nearestTo : ByteArray := prog_6_method_19_code
def yX4_nearestTo : MethodName := ⟨RX4, "nearestTo", "(I)I"⟩
abbrev cX4_massToNext : ByteArray := prog_6_method_20_code
def yX4_massToNext : MethodName := ⟨RX4, "massToNext", "(I)I"⟩
abbrev cX4_moveHands : ByteArray := prog_6_method_21_code
def yX4_moveHands : MethodName := ⟨RX4, "moveHands", "()I"⟩
abbrev cX4_voidCertificates : ByteArray := prog_6_method_22_code
def yX4_voidCertificates : MethodName := ⟨RX4, "voidCertificates", "()V"⟩
def RX5 : String := "GaugeColumns$Trial"
def TX5 : u_T := fun k => match k with
  | 0 => ("GaugeColumns$Trial", "readings", "[I", true)
  | 1 => ("GaugeColumns$Trial", "length", "I", false)
  | 2 => ("GaugeColumns$Trial", "greatest", "I", false)
  | 3 => ("GaugeColumns$Trial", "worst", "I", false)
  | 4 => ("GaugeColumns$Trial", "gauge", "LGaugeColumns$Gauge;", true)
  | 5 => ("GaugeColumns$Trial", "sorted", "[I", true)
  | _ => ("GaugeColumns$Trial", "pressures", "[I", true)
def tyX5 : Nat → FieldType := fun k => match k with
  | 0 => .array .int
  | 1 => .int
  | 2 => .int
  | 3 => .int
  | 4 => .object "GaugeColumns$Gauge"
  | 5 => .array .int
  | _ => .array .int
abbrev wsX50 : List Cond := u_ws RX5 TX5 7
theorem nmX5 : ∀ a, a < 7 → ∀ b, b < 7 → a ≠ b → (TX5 a).2.1 ≠ (TX5 b).2.1 := by decide +kernel
theorem tyX5_ok : ∀ k, k < 7 → parseFieldDescriptor (TX5 k).2.2.1 = some (tyX5 k) := by decide +kernel
abbrev cX5_init : ByteArray := prog_7_method_1_code
def yX5_init : MethodName := ⟨RX5, "<init>", "()V"⟩
abbrev cX5_prepare : ByteArray := prog_7_method_2_code
def yX5_prepare : MethodName := ⟨RX5, "prepare", "(LGaugeColumns$Tester;)V"⟩
abbrev cX5_run : ByteArray := prog_7_method_3_code
def yX5_run : MethodName := ⟨RX5, "run", "(LGaugeColumns$Gauge;I)V"⟩
def RX6 : String := "GaugeColumns"
def TX6 : u_T := fun k => match k with
  | 0 => ("GaugeColumns", "now", "LGaugeColumns$Tester;", true)
  | 1 => ("GaugeColumns", "history", "LGaugeColumns$History;", true)
  | 2 => ("GaugeColumns", "slots", "[LGaugeColumns$Tester;", true)
  | 3 => ("GaugeColumns", "trial", "LGaugeColumns$Trial;", true)
  | _ => ("GaugeColumns", "pad", "LGaugeColumns$Pad;", true)
def tyX6 : Nat → FieldType := fun k => match k with
  | 0 => .object "GaugeColumns$Tester"
  | 1 => .object "GaugeColumns$History"
  | 2 => .array (.object "GaugeColumns$Tester")
  | 3 => .object "GaugeColumns$Trial"
  | _ => .object "GaugeColumns$Pad"
abbrev wsX60 : List Cond := u_ws RX6 TX6 5
theorem nmX6 : ∀ a, a < 5 → ∀ b, b < 5 → a ≠ b → (TX6 a).2.1 ≠ (TX6 b).2.1 := by decide +kernel
theorem tyX6_ok : ∀ k, k < 5 → parseFieldDescriptor (TX6 k).2.2.1 = some (tyX6 k) := by decide +kernel
abbrev cX6_init : ByteArray := prog_1_method_1_code
def yX6_init : MethodName := ⟨RX6, "<init>", "()V"⟩
abbrev cX6_set : ByteArray := prog_1_method_2_code
def yX6_set : MethodName := ⟨RX6, "set", "(II)I"⟩
abbrev cX6_ring : ByteArray := prog_1_method_3_code
def yX6_ring : MethodName := ⟨RX6, "ring", "(I)I"⟩
abbrev cX6_lose : ByteArray := prog_1_method_4_code
def yX6_lose : MethodName := ⟨RX6, "lose", "()I"⟩
abbrev cX6_stack : ByteArray := prog_1_method_5_code
def yX6_stack : MethodName := ⟨RX6, "stack", "(I)I"⟩
abbrev cX6_take : ByteArray := prog_1_method_6_code
def yX6_take : MethodName := ⟨RX6, "take", "(I)I"⟩
abbrev cX6_gauge : ByteArray := prog_1_method_7_code
def yX6_gauge : MethodName := ⟨RX6, "gauge", "(III)I"⟩
abbrev cX6_tune : ByteArray := prog_1_method_8_code
def yX6_tune : MethodName := ⟨RX6, "tune", "(II)I"⟩
abbrev cX6_certify : ByteArray := prog_1_method_9_code
def yX6_certify : MethodName := ⟨RX6, "certify", "(I)I"⟩
abbrev cX6_ofRing : ByteArray := prog_1_method_10_code
def yX6_ofRing : MethodName := ⟨RX6, "ofRing", "(II)I"⟩
abbrev cX6_ofGauge : ByteArray := prog_1_method_11_code
def yX6_ofGauge : MethodName := ⟨RX6, "ofGauge", "(II)I"⟩
abbrev cX6_reading : ByteArray := prog_1_method_12_code
def yX6_reading : MethodName := ⟨RX6, "reading", "(II)I"⟩
abbrev cX6_count : ByteArray := prog_1_method_13_code
def yX6_count : MethodName := ⟨RX6, "count", "(I)I"⟩
abbrev cX6_pressure : ByteArray := prog_1_method_14_code
def yX6_pressure : MethodName := ⟨RX6, "pressure", "(I)I"⟩
abbrev cX6_nearest : ByteArray := prog_1_method_15_code
def yX6_nearest : MethodName := ⟨RX6, "nearest", "(II)I"⟩
abbrev cX6_test : ByteArray := prog_1_method_16_code
def yX6_test : MethodName := ⟨RX6, "test", "(II)I"⟩
abbrev cX6_bestError : ByteArray := prog_1_method_17_code
def yX6_bestError : MethodName := ⟨RX6, "bestError", "(II)I"⟩
abbrev cX6_airCosts : ByteArray := prog_1_method_18_code
def yX6_airCosts : MethodName := ⟨RX6, "airCosts", "(I)I"⟩
abbrev cX6_put : ByteArray := prog_1_method_19_code
def yX6_put : MethodName := ⟨RX6, "put", "(J)I"⟩
abbrev cX6_wipe : ByteArray := prog_1_method_20_code
def yX6_wipe : MethodName := ⟨RX6, "wipe", "()I"⟩
abbrev cX6_fault : ByteArray := prog_1_method_21_code
def yX6_fault : MethodName := ⟨RX6, "fault", "()I"⟩
abbrev cX6_carryOut : ByteArray := prog_1_method_22_code
def yX6_carryOut : MethodName := ⟨RX6, "carryOut", "()I"⟩
abbrev cX6_carryOutOrder : ByteArray := prog_1_method_23_code
def yX6_carryOutOrder : MethodName := ⟨RX6, "carryOutOrder", "()I"⟩
abbrev cX6_undo : ByteArray := prog_1_method_24_code
def yX6_undo : MethodName := ⟨RX6, "undo", "()I"⟩
abbrev cX6_save : ByteArray := prog_1_method_25_code
def yX6_save : MethodName := ⟨RX6, "save", "(I)I"⟩
abbrev cX6_restore : ByteArray := prog_1_method_26_code
def yX6_restore : MethodName := ⟨RX6, "restore", "(I)I"⟩
abbrev cX6_dividedDown : ByteArray := prog_1_method_27_code
def yX6_dividedDown : MethodName := ⟨RX6, "dividedDown", "(II)I"⟩
abbrev cX6_dividedRounded : ByteArray := prog_1_method_28_code
def yX6_dividedRounded : MethodName := ⟨RX6, "dividedRounded", "(II)I"⟩
abbrev cX6_weightOf : ByteArray := prog_1_method_29_code
def yX6_weightOf : MethodName := ⟨RX6, "weightOf", "(II)I"⟩
def RX7 : String := "GaugeColumnsModel"
def TX7 : u_T := fun k => match k with
  | 0 => ("GaugeColumnsModel", "state", "[I", true)
  | 1 => ("GaugeColumnsModel", "history", "[I", true)
  | 2 => ("GaugeColumnsModel", "recorded", "I", false)
  | 3 => ("GaugeColumnsModel", "slots", "[I", true)
  | 4 => ("GaugeColumnsModel", "isSaved", "[I", true)
  | 5 => ("GaugeColumnsModel", "pad", "[I", true)
  | 6 => ("GaugeColumnsModel", "padLength", "I", false)
  | 7 => ("GaugeColumnsModel", "order", "[I", true)
  | 8 => ("GaugeColumnsModel", "readings", "[I", true)
  | 9 => ("GaugeColumnsModel", "greatest", "I", false)
  | 10 => ("GaugeColumnsModel", "placeOfGreatest", "I", false)
  | 11 => ("GaugeColumnsModel", "at", "I", false)
  | 12 => ("GaugeColumnsModel", "letter", "I", false)
  | 13 => ("GaugeColumnsModel", "first", "I", false)
  | 14 => ("GaugeColumnsModel", "second", "I", false)
  | _ => ("GaugeColumnsModel", "third", "I", false)
def tyX7 : Nat → FieldType := fun k => match k with
  | 0 => .array .int
  | 1 => .array .int
  | 2 => .int
  | 3 => .array .int
  | 4 => .array .int
  | 5 => .array .int
  | 6 => .int
  | 7 => .array .int
  | 8 => .array .int
  | 9 => .int
  | 10 => .int
  | 11 => .int
  | 12 => .int
  | 13 => .int
  | 14 => .int
  | _ => .int
abbrev wsX70 : List Cond := u_ws RX7 TX7 16
theorem nmX7 : ∀ a, a < 16 → ∀ b, b < 16 → a ≠ b → (TX7 a).2.1 ≠ (TX7 b).2.1 := by decide +kernel
theorem tyX7_ok : ∀ k, k < 16 → parseFieldDescriptor (TX7 k).2.2.1 = some (tyX7 k) := by decide +kernel
abbrev cX7_init : ByteArray := prog_9_method_1_code
def yX7_init : MethodName := ⟨RX7, "<init>", "()V"⟩
abbrev cX7_moves : ByteArray := prog_9_method_3_code
def yX7_moves : MethodName := ⟨RX7, "moves", "([II[II)V"⟩
abbrev cX7_within : ByteArray := prog_9_method_4_code
def yX7_within : MethodName := ⟨RX7, "within", "(III)Z"⟩
abbrev cX7_size : ByteArray := prog_9_method_5_code
def yX7_size : MethodName := ⟨RX7, "size", "(I)I"⟩
abbrev cX7_rounded : ByteArray := prog_9_method_6_code
def yX7_rounded : MethodName := ⟨RX7, "rounded", "(II)I"⟩
abbrev cX7_record : ByteArray := prog_9_method_7_code
def yX7_record : MethodName := ⟨RX7, "record", "()V"⟩
abbrev cX7_isRing : ByteArray := prog_9_method_8_code
def yX7_isRing : MethodName := ⟨RX7, "isRing", "(I)Z"⟩
abbrev cX7_isStacked : ByteArray := prog_9_method_9_code
def yX7_isStacked : MethodName := ⟨RX7, "isStacked", "(I)Z"⟩
abbrev cX7_massOf : ByteArray := prog_9_method_10_code
def yX7_massOf : MethodName := ⟨RX7, "massOf", "(I)I"⟩
abbrev cX7_weightOf : ByteArray := prog_9_method_11_code
def yX7_weightOf : MethodName := ⟨RX7, "weightOf", "(II)I"⟩
abbrev cX7_pressureBy : ByteArray := prog_9_method_12_code
def yX7_pressureBy : MethodName := ⟨RX7, "pressureBy", "(II)I"⟩
abbrev cX7_pressureOf : ByteArray := prog_9_method_13_code
def yX7_pressureOf : MethodName := ⟨RX7, "pressureOf", "(I)I"⟩
abbrev cX7_bits : ByteArray := prog_9_method_14_code
def yX7_bits : MethodName := ⟨RX7, "bits", "(I)I"⟩
abbrev cX7_findOrder : ByteArray := prog_9_method_15_code
def yX7_findOrder : MethodName := ⟨RX7, "findOrder", "()V"⟩
abbrev cX7_isGauge : ByteArray := prog_9_method_16_code
def yX7_isGauge : MethodName := ⟨RX7, "isGauge", "(I)Z"⟩
abbrev cX7_part : ByteArray := prog_9_method_17_code
def yX7_part : MethodName := ⟨RX7, "part", "(II)I"⟩
abbrev cX7_setPart : ByteArray := prog_9_method_18_code
def yX7_setPart : MethodName := ⟨RX7, "setPart", "(III)V"⟩
abbrev cX7_truth : ByteArray := prog_9_method_19_code
def yX7_truth : MethodName := ⟨RX7, "truth", "(II)I"⟩
abbrev cX7_goesTo : ByteArray := prog_9_method_20_code
def yX7_goesTo : MethodName := ⟨RX7, "goesTo", "(IIII)I"⟩
abbrev cX7_reads : ByteArray := prog_9_method_21_code
def yX7_reads : MethodName := ⟨RX7, "reads", "(II)I"⟩
abbrev cX7_handGoes : ByteArray := prog_9_method_22_code
def yX7_handGoes : MethodName := ⟨RX7, "handGoes", "(I)V"⟩
abbrev cX7_handsGo : ByteArray := prog_9_method_23_code
def yX7_handsGo : MethodName := ⟨RX7, "handsGo", "()V"⟩
abbrev cX7_voids : ByteArray := prog_9_method_24_code
def yX7_voids : MethodName := ⟨RX7, "voids", "(I)V"⟩
abbrev cX7_voidsAll : ByteArray := prog_9_method_25_code
def yX7_voidsAll : MethodName := ⟨RX7, "voidsAll", "()V"⟩
abbrev cX7_certificates : ByteArray := prog_9_method_26_code
def yX7_certificates : MethodName := ⟨RX7, "certificates", "()I"⟩
abbrev cX7_tests : ByteArray := prog_9_method_27_code
def yX7_tests : MethodName := ⟨RX7, "tests", "(II)V"⟩
abbrev cX7_isValue : ByteArray := prog_9_method_28_code
def yX7_isValue : MethodName := ⟨RX7, "isValue", "(II)Z"⟩
abbrev cX7_sets : ByteArray := prog_9_method_29_code
def yX7_sets : MethodName := ⟨RX7, "sets", "(II)I"⟩
abbrev cX7_set : ByteArray := prog_9_method_30_code
def yX7_set : MethodName := ⟨RX7, "set", "(II)I"⟩
abbrev cX7_whyNoRing : ByteArray := prog_9_method_31_code
def yX7_whyNoRing : MethodName := ⟨RX7, "whyNoRing", "(I)I"⟩
abbrev cX7_comes : ByteArray := prog_9_method_32_code
def yX7_comes : MethodName := ⟨RX7, "comes", "(I)I"⟩
abbrev cX7_ring : ByteArray := prog_9_method_33_code
def yX7_ring : MethodName := ⟨RX7, "ring", "(I)I"⟩
abbrev cX7_lose : ByteArray := prog_9_method_34_code
def yX7_lose : MethodName := ⟨RX7, "lose", "()I"⟩
abbrev cX7_whyNotMoved : ByteArray := prog_9_method_35_code
def yX7_whyNotMoved : MethodName := ⟨RX7, "whyNotMoved", "(IZ)I"⟩
abbrev cX7_isMoved : ByteArray := prog_9_method_36_code
def yX7_isMoved : MethodName := ⟨RX7, "isMoved", "(I)I"⟩
abbrev cX7_stack : ByteArray := prog_9_method_37_code
def yX7_stack : MethodName := ⟨RX7, "stack", "(I)I"⟩
abbrev cX7_take : ByteArray := prog_9_method_38_code
def yX7_take : MethodName := ⟨RX7, "take", "(I)I"⟩
abbrev cX7_isError : ByteArray := prog_9_method_39_code
def yX7_isError : MethodName := ⟨RX7, "isError", "(I)Z"⟩
abbrev cX7_whyNoGauge : ByteArray := prog_9_method_40_code
def yX7_whyNoGauge : MethodName := ⟨RX7, "whyNoGauge", "(III)I"⟩
abbrev cX7_comesGauge : ByteArray := prog_9_method_41_code
def yX7_comesGauge : MethodName := ⟨RX7, "comesGauge", "(III)I"⟩
abbrev cX7_gauge : ByteArray := prog_9_method_42_code
def yX7_gauge : MethodName := ⟨RX7, "gauge", "(III)I"⟩
abbrev cX7_tune : ByteArray := prog_9_method_43_code
def yX7_tune : MethodName := ⟨RX7, "tune", "(II)I"⟩
abbrev cX7_whyNotCertified : ByteArray := prog_9_method_44_code
def yX7_whyNotCertified : MethodName := ⟨RX7, "whyNotCertified", "(I)I"⟩
abbrev cX7_certifies : ByteArray := prog_9_method_45_code
def yX7_certifies : MethodName := ⟨RX7, "certifies", "(I)I"⟩
abbrev cX7_certify : ByteArray := prog_9_method_46_code
def yX7_certify : MethodName := ⟨RX7, "certify", "(I)I"⟩
abbrev cX7_placeOf : ByteArray := prog_9_method_47_code
def yX7_placeOf : MethodName := ⟨RX7, "placeOf", "(I)I"⟩
abbrev cX7_ofRing : ByteArray := prog_9_method_48_code
def yX7_ofRing : MethodName := ⟨RX7, "ofRing", "(II)I"⟩
abbrev cX7_ofGauge : ByteArray := prog_9_method_49_code
def yX7_ofGauge : MethodName := ⟨RX7, "ofGauge", "(II)I"⟩
abbrev cX7_reading : ByteArray := prog_9_method_50_code
def yX7_reading : MethodName := ⟨RX7, "reading", "(II)I"⟩
abbrev cX7_count : ByteArray := prog_9_method_51_code
def yX7_count : MethodName := ⟨RX7, "count", "(I)I"⟩
abbrev cX7_pressure : ByteArray := prog_9_method_52_code
def yX7_pressure : MethodName := ⟨RX7, "pressure", "(I)I"⟩
abbrev cX7_nearest : ByteArray := prog_9_method_53_code
def yX7_nearest : MethodName := ⟨RX7, "nearest", "(II)I"⟩
abbrev cX7_test : ByteArray := prog_9_method_54_code
def yX7_test : MethodName := ⟨RX7, "test", "(II)I"⟩
abbrev cX7_bestError : ByteArray := prog_9_method_55_code
def yX7_bestError : MethodName := ⟨RX7, "bestError", "(II)I"⟩
abbrev cX7_airCosts : ByteArray := prog_9_method_56_code
def yX7_airCosts : MethodName := ⟨RX7, "airCosts", "(I)I"⟩
abbrev cX7_put : ByteArray := prog_9_method_57_code
def yX7_put : MethodName := ⟨RX7, "put", "(J)I"⟩
abbrev cX7_wipe : ByteArray := prog_9_method_58_code
def yX7_wipe : MethodName := ⟨RX7, "wipe", "()I"⟩
abbrev cX7_character : ByteArray := prog_9_method_59_code
def yX7_character : MethodName := ⟨RX7, "character", "(I)I"⟩
abbrev cX7_isNext : ByteArray := prog_9_method_60_code
def yX7_isNext : MethodName := ⟨RX7, "isNext", "(I)Z"⟩
abbrev cX7_takeDigit : ByteArray := prog_9_method_61_code
def yX7_takeDigit : MethodName := ⟨RX7, "takeDigit", "()I"⟩
abbrev cX7_takeNumber : ByteArray := prog_9_method_62_code
def yX7_takeNumber : MethodName := ⟨RX7, "takeNumber", "()I"⟩
abbrev cX7_readsGauge : ByteArray := prog_9_method_63_code
def yX7_readsGauge : MethodName := ⟨RX7, "readsGauge", "()Z"⟩
abbrev cX7_readsOrder : ByteArray := prog_9_method_64_code
def yX7_readsOrder : MethodName := ⟨RX7, "readsOrder", "()Z"⟩
abbrev cX7_findFault : ByteArray := prog_9_method_65_code
def yX7_findFault : MethodName := ⟨RX7, "findFault", "()I"⟩
abbrev cX7_fault : ByteArray := prog_9_method_66_code
def yX7_fault : MethodName := ⟨RX7, "fault", "()I"⟩
abbrev cX7_whyNotDone : ByteArray := prog_9_method_67_code
def yX7_whyNotDone : MethodName := ⟨RX7, "whyNotDone", "()I"⟩
abbrev cX7_does : ByteArray := prog_9_method_68_code
def yX7_does : MethodName := ⟨RX7, "does", "()V"⟩
abbrev cX7_carryOut : ByteArray := prog_9_method_69_code
def yX7_carryOut : MethodName := ⟨RX7, "carryOut", "()I"⟩
abbrev cX7_undo : ByteArray := prog_9_method_70_code
def yX7_undo : MethodName := ⟨RX7, "undo", "()I"⟩
abbrev cX7_save : ByteArray := prog_9_method_71_code
def yX7_save : MethodName := ⟨RX7, "save", "(I)I"⟩
abbrev cX7_restore : ByteArray := prog_9_method_72_code
def yX7_restore : MethodName := ⟨RX7, "restore", "(I)I"⟩
def RJx8e188 : String := "java/lang/Cloneable"
def TJx8e188 : u_T := fun k => match k with
  | _ => ("", "", "", false)
def tyJx8e188 : Nat → FieldType := fun k => match k with
  | _ => .int
abbrev wsJx8e1880 : List Cond := u_ws RJx8e188 TJx8e188 0
theorem nmJx8e188 : ∀ a, a < 0 → ∀ b, b < 0 → a ≠ b → (TJx8e188 a).2.1 ≠ (TJx8e188 b).2.1 := by decide +kernel
theorem tyJx8e188_ok : ∀ k, k < 0 → parseFieldDescriptor (TJx8e188 k).2.2.1 = some (tyJx8e188 k) := by decide +kernel
def RJ6 : String := "java/lang/Integer"
def TJ6 : u_T := fun k => match k with
  | _ => ("", "", "", false)
def tyJ6 : Nat → FieldType := fun k => match k with
  | _ => .int
abbrev wsJ60 : List Cond := u_ws RJ6 TJ6 0
theorem nmJ6 : ∀ a, a < 0 → ∀ b, b < 0 → a ≠ b → (TJ6 a).2.1 ≠ (TJ6 b).2.1 := by decide +kernel
theorem tyJ6_ok : ∀ k, k < 0 → parseFieldDescriptor (TJ6 k).2.2.1 = some (tyJ6 k) := by decide +kernel
abbrev cJ6_bitCount_0f7a4 : ByteArray := prog_11_method_49_code
def yJ6_bitCount_0f7a4 : MethodName := ⟨RJ6, "bitCount", "(I)I"⟩
def RJ9 : String := "java/lang/Math"
def TJ9 : u_T := fun k => match k with
  | _ => ("", "", "", false)
def tyJ9 : Nat → FieldType := fun k => match k with
  | _ => .int
abbrev wsJ90 : List Cond := u_ws RJ9 TJ9 0
theorem nmJ9 : ∀ a, a < 0 → ∀ b, b < 0 → a ≠ b → (TJ9 a).2.1 ≠ (TJ9 b).2.1 := by decide +kernel
theorem tyJ9_ok : ∀ k, k < 0 → parseFieldDescriptor (TJ9 k).2.2.1 = some (tyJ9 k) := by decide +kernel
abbrev cJ9_abs_0f7a4 : ByteArray := prog_12_method_59_code
def yJ9_abs_0f7a4 : MethodName := ⟨RJ9, "abs", "(I)I"⟩
abbrev cJ9_min_7cf53 : ByteArray := prog_12_method_69_code
def yJ9_min_7cf53 : MethodName := ⟨RJ9, "min", "(II)I"⟩
def RJ10 : String := "java/lang/System"
def TJ10 : u_T := fun k => match k with
  | _ => ("", "", "", false)
def tyJ10 : Nat → FieldType := fun k => match k with
  | _ => .int
abbrev wsJ100 : List Cond := u_ws RJ10 TJ10 0
theorem nmJ10 : ∀ a, a < 0 → ∀ b, b < 0 → a ≠ b → (TJ10 a).2.1 ≠ (TJ10 b).2.1 := by decide +kernel
theorem tyJ10_ok : ∀ k, k < 0 → parseFieldDescriptor (TJ10 k).2.2.1 = some (tyJ10 k) := by decide +kernel
def RJ7 : String := "java/util/Arrays"
def TJ7 : u_T := fun k => match k with
  | _ => ("", "", "", false)
def tyJ7 : Nat → FieldType := fun k => match k with
  | _ => .int
abbrev wsJ70 : List Cond := u_ws RJ7 TJ7 0
theorem nmJ7 : ∀ a, a < 0 → ∀ b, b < 0 → a ≠ b → (TJ7 a).2.1 ≠ (TJ7 b).2.1 := by decide +kernel
theorem tyJ7_ok : ∀ k, k < 0 → parseFieldDescriptor (TJ7 k).2.2.1 = some (tyJ7 k) := by decide +kernel
abbrev cJ7_copyOf_59c91 : ByteArray := prog_14_method_123_code
def yJ7_copyOf_59c91 : MethodName := ⟨RJ7, "copyOf", "([II)[I"⟩
def RL : String := "GaugeColumnsLaw"
abbrev cL_law : ByteArray := code
def yL_law : MethodName := ⟨RL, "law", "([I)Z"⟩
def wsL_law_r1 : List Cond := [Cond.classLink RL 7 RX6, Cond.instantiable RX6 5, Cond.initialized RX6, Cond.classLink RL 10 RX7, Cond.instantiable RX7 16, Cond.initialized RX7, Cond.constantLong RL 85 (4294967295), Cond.methodLink RL 9 yX6_init, Cond.instanceMethod yX6_init, Cond.code yX6_init cX6_init 1 none, Cond.methodLink RX6 1 objectInit, Cond.instanceMethod objectInit, Cond.code objectInit ⟨#[0xb1]⟩ 1 none, Cond.classLink RX6 7 RX4, Cond.instantiable RX4 6, Cond.initialized RX4, Cond.fieldLink RX6 10 "GaugeColumns" "now" "LGaugeColumns$Tester;", Cond.classLink RX6 16 RX2, Cond.instantiable RX2 3, Cond.initialized RX2, Cond.fieldLink RX6 19 "GaugeColumns" "history" "LGaugeColumns$History;", Cond.fieldLink RX6 23 "GaugeColumns" "slots" "[LGaugeColumns$Tester;", Cond.classLink RX6 27 RX5, Cond.instantiable RX5 7]
def wsL_law_r2 : List Cond := [Cond.initialized RX5, Cond.fieldLink RX6 30 "GaugeColumns" "trial" "LGaugeColumns$Trial;", Cond.classLink RX6 34 RX3, Cond.instantiable RX3 5, Cond.initialized RX3, Cond.fieldLink RX6 37 "GaugeColumns" "pad" "LGaugeColumns$Pad;", Cond.methodLink RX6 9 yX4_init, Cond.instanceMethod yX4_init, Cond.code yX4_init cX4_init 2 none, Cond.methodLink RX4 3 objectInit, Cond.methodLink RX4 13 ⟨"[I", "clone", "()Ljava/lang/Object;"⟩, Cond.sameMethod "[I" "java/lang/Object" "clone" "()Ljava/lang/Object;", Cond.native ⟨"java/lang/Object", "clone", "()Ljava/lang/Object;"⟩, Cond.instanceMethod ⟨"java/lang/Object", "clone", "()Ljava/lang/Object;"⟩, Cond.selects "[I" ⟨"[I", "clone", "()Ljava/lang/Object;"⟩ ⟨"java/lang/Object", "clone", "()Ljava/lang/Object;"⟩, Cond.classLink RX4 14 "[I", Cond.fieldLink RX4 18 "GaugeColumns$Tester" "settings" "[I", Cond.arrayClass .int, Cond.fieldLink RX4 23 "GaugeColumns$Tester" "grams" "[I", Cond.classLink RX4 26 RX1, Cond.fieldLink RX4 28 "GaugeColumns$Tester" "gauges" "[LGaugeColumns$Gauge;", Cond.instantiable RX1 5, Cond.initialized RX1, Cond.instanceMethod yX1_init]
def wsL_law_r3 : List Cond := [Cond.code yX1_init cX1_init 1 none, Cond.methodLink RX1 3 objectInit, Cond.methodLink RX6 18 yX2_init, Cond.instanceMethod yX2_init, Cond.code yX2_init cX2_init 2 none, Cond.methodLink RX2 3 objectInit, Cond.classLink RX2 9 RX4, Cond.fieldLink RX2 11 "GaugeColumns$History" "states" "[LGaugeColumns$Tester;", Cond.methodLink RX2 17 yX4_init, Cond.instanceMethod yX5_init, Cond.code yX5_init cX5_init 1 none, Cond.methodLink RX5 3 objectInit, Cond.fieldLink RX5 9 "GaugeColumns$Trial" "readings" "[I", Cond.classLink RX5 15 RX1, Cond.fieldLink RX5 18 "GaugeColumns$Trial" "gauge" "LGaugeColumns$Gauge;", Cond.fieldLink RX5 22 "GaugeColumns$Trial" "sorted" "[I", Cond.fieldLink RX5 25 "GaugeColumns$Trial" "pressures" "[I", Cond.instanceMethod yX3_init, Cond.code yX3_init cX3_init 1 none, Cond.methodLink RX3 3 objectInit, Cond.fieldLink RX3 9 "GaugeColumns$Pad" "numbers" "[I", Cond.arrayClass .char, Cond.fieldLink RX3 15 "GaugeColumns$Pad" "signs" "[C", Cond.methodLink RL 12 yX7_init]
def wsL_law_r4 : List Cond := [Cond.instanceMethod yX7_init, Cond.code yX7_init cX7_init 1 none, Cond.methodLink RX7 1 objectInit, Cond.fieldLink RX7 7 "GaugeColumnsModel" "state" "[I", Cond.fieldLink RX7 13 "GaugeColumnsModel" "history" "[I", Cond.fieldLink RX7 16 "GaugeColumnsModel" "slots" "[I", Cond.fieldLink RX7 19 "GaugeColumnsModel" "isSaved" "[I", Cond.fieldLink RX7 22 "GaugeColumnsModel" "pad" "[I", Cond.fieldLink RX7 25 "GaugeColumnsModel" "order" "[I", Cond.fieldLink RX7 28 "GaugeColumnsModel" "readings" "[I", Cond.methodLink RL 13 yX6_set, Cond.instanceMethod yX6_set, Cond.selects RX6 yX6_set yX6_set, Cond.code yX6_set cX6_set 3 (some .int), Cond.methodLink RX6 41 yX2_remember, Cond.instanceMethod yX2_remember, Cond.selects RX2 yX2_remember yX2_remember, Cond.code yX2_remember cX2_remember 2 none, Cond.fieldLink RX2 18 "GaugeColumns$History" "next" "I", Cond.methodLink RX2 22 yX4_copyFrom, Cond.instanceMethod yX4_copyFrom, Cond.selects RX4 yX4_copyFrom yX4_copyFrom, Cond.code yX4_copyFrom cX4_copyFrom 3 none, Cond.methodLink RX4 33 arraycopyName]
def wsL_law_r5 : List Cond := [Cond.native arraycopyName, Cond.static arraycopyName, Cond.initialized "java/lang/System", Cond.fieldLink RX4 43 "GaugeColumns$Tester" "ringCount" "I", Cond.fieldLink RX4 47 "GaugeColumns$Tester" "column" "I", Cond.fieldLink RX4 50 "GaugeColumns$Tester" "gaugeCount" "I", Cond.methodLink RX4 39 yX1_copyFrom, Cond.instanceMethod yX1_copyFrom, Cond.selects RX1 yX1_copyFrom yX1_copyFrom, Cond.code yX1_copyFrom cX1_copyFrom 2 none, Cond.fieldLink RX1 9 "GaugeColumns$Gauge" "error" "I", Cond.fieldLink RX1 15 "GaugeColumns$Gauge" "play" "I", Cond.fieldLink RX1 18 "GaugeColumns$Gauge" "step" "I", Cond.fieldLink RX1 21 "GaugeColumns$Gauge" "hand" "I", Cond.fieldLink RX1 24 "GaugeColumns$Gauge" "certificate" "LGaugeColumns$Certificate;", Cond.methodLink RX6 45 yX4_change, Cond.instanceMethod yX4_change, Cond.selects RX4 yX4_change yX4_change, Cond.code yX4_change cX4_change 4 (some .int), Cond.methodLink RX4 59 yX4_voidCertificates, Cond.instanceMethod yX4_voidCertificates, Cond.selects RX4 yX4_voidCertificates yX4_voidCertificates, Cond.code yX4_voidCertificates cX4_voidCertificates 2 none, Cond.fieldLink RX4 91 "GaugeColumns$Gauge" "certificate" "LGaugeColumns$Certificate;"]
def wsL_law_r6 : List Cond := [Cond.methodLink RX4 62 yX4_moveHands, Cond.instanceMethod yX4_moveHands, Cond.selects RX4 yX4_moveHands yX4_moveHands, Cond.code yX4_moveHands cX4_moveHands 3 (some .int), Cond.methodLink RX4 77 yX4_columnPressure, Cond.instanceMethod yX4_columnPressure, Cond.selects RX4 yX4_columnPressure yX4_columnPressure, Cond.code yX4_columnPressure cX4_columnPressure 1 (some .int), Cond.methodLink RX4 120 yX4_massOf, Cond.instanceMethod yX4_massOf, Cond.selects RX4 yX4_massOf yX4_massOf, Cond.code yX4_massOf cX4_massOf 4 (some .int), Cond.methodLink RX4 124 yX4_pressureOf, Cond.instanceMethod yX4_pressureOf, Cond.selects RX4 yX4_pressureOf yX4_pressureOf, Cond.code yX4_pressureOf cX4_pressureOf 3 (some .int), Cond.static yX6_weightOf, Cond.code yX6_weightOf cX6_weightOf 2 (some .int), Cond.constant RX6 203 (100000), Cond.methodLink RX6 204 yX6_dividedRounded, Cond.static yX6_dividedRounded, Cond.code yX6_dividedRounded cX6_dividedRounded 2 (some .int), Cond.static yX6_dividedDown, Cond.code yX6_dividedDown cX6_dividedDown 2 (some .int)]
def wsL_law_r7 : List Cond := [Cond.methodLink RX4 80 yX1_follow, Cond.instanceMethod yX1_follow, Cond.selects RX1 yX1_follow yX1_follow, Cond.code yX1_follow cX1_follow 4 none, Cond.methodLink RX1 28 Lib.Math.abs.name, Cond.static Lib.Math.abs.name, Cond.initialized "java/lang/Math", Cond.code Lib.Math.abs.name Lib.Math.abs.code 1 (some .int), Cond.methodLink RX6 49 yX2_settle, Cond.instanceMethod yX2_settle, Cond.selects RX2 yX2_settle yX2_settle, Cond.code yX2_settle cX2_settle 2 (some .int), Cond.fieldLink RX2 26 "GaugeColumns$History" "kept" "I", Cond.methodLink RX2 29 Lib.Math.min.name, Cond.static Lib.Math.min.name, Cond.code Lib.Math.min.name Lib.Math.min.code 2 (some .int), Cond.methodLink RL 17 yX7_set, Cond.instanceMethod yX7_set, Cond.selects RX7 yX7_set yX7_set, Cond.code yX7_set cX7_set 3 (some .int), Cond.methodLink RX7 103 yX7_isValue, Cond.static yX7_isValue, Cond.code yX7_isValue cX7_isValue 2 (some .boolean), Cond.methodLink RX7 39 yX7_within]
def wsL_law_r8 : List Cond := [Cond.static yX7_within, Cond.code yX7_within cX7_within 3 (some .boolean), Cond.methodLink RX7 107 yX7_record, Cond.instanceMethod yX7_record, Cond.selects RX7 yX7_record yX7_record, Cond.code yX7_record cX7_record 2 none, Cond.fieldLink RX7 31 "GaugeColumnsModel" "recorded" "I", Cond.methodLink RX7 35 yX7_moves, Cond.static yX7_moves, Cond.code yX7_moves cX7_moves 5 none, Cond.methodLink RX7 110 yX7_sets, Cond.instanceMethod yX7_sets, Cond.selects RX7 yX7_sets yX7_sets, Cond.code yX7_sets cX7_sets 4 (some .int), Cond.methodLink RX7 97 yX7_voidsAll, Cond.instanceMethod yX7_voidsAll, Cond.selects RX7 yX7_voidsAll yX7_voidsAll, Cond.code yX7_voidsAll cX7_voidsAll 2 none, Cond.methodLink RX7 82 yX7_voids, Cond.instanceMethod yX7_voids, Cond.selects RX7 yX7_voids yX7_voids, Cond.code yX7_voids cX7_voids 3 none, Cond.methodLink RX7 74 yX7_setPart, Cond.instanceMethod yX7_setPart]
def wsL_law_r9 : List Cond := [Cond.selects RX7 yX7_setPart yX7_setPart, Cond.code yX7_setPart cX7_setPart 4 none, Cond.methodLink RX7 100 yX7_handsGo, Cond.instanceMethod yX7_handsGo, Cond.selects RX7 yX7_handsGo yX7_handsGo, Cond.code yX7_handsGo cX7_handsGo 2 none, Cond.methodLink RX7 78 yX7_handGoes, Cond.instanceMethod yX7_handGoes, Cond.selects RX7 yX7_handGoes yX7_handGoes, Cond.code yX7_handGoes cX7_handGoes 2 none, Cond.methodLink RX7 64 yX7_part, Cond.instanceMethod yX7_part, Cond.selects RX7 yX7_part yX7_part, Cond.code yX7_part cX7_part 3 (some .int), Cond.methodLink RX7 67 yX7_pressureOf, Cond.instanceMethod yX7_pressureOf, Cond.selects RX7 yX7_pressureOf yX7_pressureOf, Cond.code yX7_pressureOf cX7_pressureOf 2 (some .int), Cond.methodLink RX7 51 yX7_massOf, Cond.instanceMethod yX7_massOf, Cond.selects RX7 yX7_massOf yX7_massOf, Cond.code yX7_massOf cX7_massOf 4 (some .int), Cond.methodLink RX7 55 yX7_pressureBy, Cond.instanceMethod yX7_pressureBy]
def wsL_law_r10 : List Cond := [Cond.selects RX7 yX7_pressureBy yX7_pressureBy, Cond.code yX7_pressureBy cX7_pressureBy 3 (some .int), Cond.methodLink RX7 48 yX7_weightOf, Cond.instanceMethod yX7_weightOf, Cond.selects RX7 yX7_weightOf yX7_weightOf, Cond.code yX7_weightOf cX7_weightOf 3 (some .int), Cond.constant RX7 43 (100000), Cond.methodLink RX7 44 yX7_rounded, Cond.static yX7_rounded, Cond.code yX7_rounded cX7_rounded 2 (some .int), Cond.methodLink RX7 70 yX7_goesTo, Cond.static yX7_goesTo, Cond.code yX7_goesTo cX7_goesTo 5 (some .int), Cond.methodLink RX7 61 yX7_truth, Cond.static yX7_truth, Cond.code yX7_truth cX7_truth 3 (some .int), Cond.methodLink RX7 58 yX7_size, Cond.static yX7_size, Cond.code yX7_size cX7_size 1 (some .int), Cond.methodLink RL 18 yX6_ring, Cond.instanceMethod yX6_ring, Cond.selects RX6 yX6_ring yX6_ring, Cond.code yX6_ring cX6_ring 2 (some .int), Cond.methodLink RX6 53 yX4_addRing]
def wsL_law_r11 : List Cond := [Cond.instanceMethod yX4_addRing, Cond.selects RX4 yX4_addRing yX4_addRing, Cond.code yX4_addRing cX4_addRing 2 (some .int), Cond.methodLink RL 22 yX7_ring, Cond.instanceMethod yX7_ring, Cond.selects RX7 yX7_ring yX7_ring, Cond.code yX7_ring cX7_ring 3 (some .int), Cond.methodLink RX7 113 yX7_whyNoRing, Cond.instanceMethod yX7_whyNoRing, Cond.selects RX7 yX7_whyNoRing yX7_whyNoRing, Cond.code yX7_whyNoRing cX7_whyNoRing 2 (some .int), Cond.methodLink RX7 116 yX7_comes, Cond.instanceMethod yX7_comes, Cond.selects RX7 yX7_comes yX7_comes, Cond.code yX7_comes cX7_comes 2 (some .int), Cond.methodLink RL 23 yX6_lose, Cond.instanceMethod yX6_lose, Cond.selects RX6 yX6_lose yX6_lose, Cond.code yX6_lose cX6_lose 1 (some .int), Cond.methodLink RX6 56 yX4_dropRing, Cond.instanceMethod yX4_dropRing, Cond.selects RX4 yX4_dropRing yX4_dropRing, Cond.code yX4_dropRing cX4_dropRing 1 (some .int), Cond.methodLink RL 27 yX7_lose]
def wsL_law_r12 : List Cond := [Cond.instanceMethod yX7_lose, Cond.selects RX7 yX7_lose yX7_lose, Cond.code yX7_lose cX7_lose 3 (some .int), Cond.methodLink RL 28 yX6_stack, Cond.instanceMethod yX6_stack, Cond.selects RX6 yX6_stack yX6_stack, Cond.code yX6_stack cX6_stack 2 (some .int), Cond.methodLink RX6 60 yX4_putOn, Cond.instanceMethod yX4_putOn, Cond.selects RX4 yX4_putOn yX4_putOn, Cond.code yX4_putOn cX4_putOn 2 (some .int), Cond.methodLink RX4 66 yX4_hasRing, Cond.instanceMethod yX4_hasRing, Cond.selects RX4 yX4_hasRing yX4_hasRing, Cond.code yX4_hasRing cX4_hasRing 2 (some .boolean), Cond.methodLink RX4 70 yX4_isStacked, Cond.instanceMethod yX4_isStacked, Cond.selects RX4 yX4_isStacked yX4_isStacked, Cond.code yX4_isStacked cX4_isStacked 2 (some .boolean), Cond.methodLink RL 31 yX7_stack, Cond.instanceMethod yX7_stack, Cond.selects RX7 yX7_stack yX7_stack, Cond.code yX7_stack cX7_stack 3 (some .int), Cond.methodLink RX7 126 yX7_whyNotMoved]
def wsL_law_r13 : List Cond := [Cond.instanceMethod yX7_whyNotMoved, Cond.selects RX7 yX7_whyNotMoved yX7_whyNotMoved, Cond.code yX7_whyNotMoved cX7_whyNotMoved 3 (some .int), Cond.methodLink RX7 119 yX7_isRing, Cond.instanceMethod yX7_isRing, Cond.selects RX7 yX7_isRing yX7_isRing, Cond.code yX7_isRing cX7_isRing 2 (some .boolean), Cond.methodLink RX7 123 yX7_isStacked, Cond.instanceMethod yX7_isStacked, Cond.selects RX7 yX7_isStacked yX7_isStacked, Cond.code yX7_isStacked cX7_isStacked 2 (some .boolean), Cond.methodLink RX7 130 yX7_isMoved, Cond.instanceMethod yX7_isMoved, Cond.selects RX7 yX7_isMoved yX7_isMoved, Cond.code yX7_isMoved cX7_isMoved 2 (some .int), Cond.methodLink RL 32 yX6_take, Cond.instanceMethod yX6_take, Cond.selects RX6 yX6_take yX6_take, Cond.code yX6_take cX6_take 2 (some .int), Cond.methodLink RX6 63 yX4_takeOff, Cond.instanceMethod yX4_takeOff, Cond.selects RX4 yX4_takeOff yX4_takeOff, Cond.code yX4_takeOff cX4_takeOff 2 (some .int), Cond.methodLink RL 35 yX7_take]
def wsL_law_r14 : List Cond := [Cond.instanceMethod yX7_take, Cond.selects RX7 yX7_take yX7_take, Cond.code yX7_take cX7_take 3 (some .int), Cond.methodLink RL 36 yX6_gauge, Cond.instanceMethod yX6_gauge, Cond.selects RX6 yX6_gauge yX6_gauge, Cond.code yX6_gauge cX6_gauge 4 (some .int), Cond.methodLink RX6 66 yX4_addGauge, Cond.instanceMethod yX4_addGauge, Cond.selects RX4 yX4_addGauge yX4_addGauge, Cond.code yX4_addGauge cX4_addGauge 4 (some .int), Cond.methodLink RX4 73 yX1_begin, Cond.instanceMethod yX1_begin, Cond.selects RX1 yX1_begin yX1_begin, Cond.code yX1_begin cX1_begin 4 none, Cond.methodLink RL 40 yX7_gauge, Cond.instanceMethod yX7_gauge, Cond.selects RX7 yX7_gauge yX7_gauge, Cond.code yX7_gauge cX7_gauge 5 (some .int), Cond.methodLink RX7 136 yX7_whyNoGauge, Cond.instanceMethod yX7_whyNoGauge, Cond.selects RX7 yX7_whyNoGauge yX7_whyNoGauge, Cond.code yX7_whyNoGauge cX7_whyNoGauge 4 (some .int), Cond.methodLink RX7 133 yX7_isError]
def wsL_law_r15 : List Cond := [Cond.static yX7_isError, Cond.code yX7_isError cX7_isError 1 (some .boolean), Cond.methodLink RX7 140 yX7_comesGauge, Cond.instanceMethod yX7_comesGauge, Cond.selects RX7 yX7_comesGauge yX7_comesGauge, Cond.code yX7_comesGauge cX7_comesGauge 6 (some .int), Cond.methodLink RL 41 yX6_tune, Cond.instanceMethod yX6_tune, Cond.selects RX6 yX6_tune yX6_tune, Cond.code yX6_tune cX6_tune 3 (some .int), Cond.methodLink RX6 70 yX4_adjust, Cond.instanceMethod yX4_adjust, Cond.selects RX4 yX4_adjust yX4_adjust, Cond.code yX4_adjust cX4_adjust 5 (some .int), Cond.fieldLink RX4 88 "GaugeColumns$Gauge" "error" "I", Cond.methodLink RX4 84 yX4_gaugeAt, Cond.instanceMethod yX4_gaugeAt, Cond.selects RX4 yX4_gaugeAt yX4_gaugeAt, Cond.code yX4_gaugeAt cX4_gaugeAt 2 (some (.object "GaugeColumns$Gauge")), Cond.methodLink RL 44 yX7_tune, Cond.instanceMethod yX7_tune, Cond.selects RX7 yX7_tune yX7_tune, Cond.code yX7_tune cX7_tune 4 (some .int), Cond.methodLink RX7 143 yX7_isGauge]
def wsL_law_r16 : List Cond := [Cond.instanceMethod yX7_isGauge, Cond.selects RX7 yX7_isGauge yX7_isGauge, Cond.code yX7_isGauge cX7_isGauge 2 (some .boolean), Cond.methodLink RL 45 yX6_certify, Cond.instanceMethod yX6_certify, Cond.selects RX6 yX6_certify yX6_certify, Cond.code yX6_certify cX6_certify 2 (some .int), Cond.methodLink RX6 73 yX4_certifyBy, Cond.instanceMethod yX4_certifyBy, Cond.selects RX4 yX4_certifyBy yX4_certifyBy, Cond.code yX4_certifyBy cX4_certifyBy 4 (some .int), Cond.fieldLink RX4 105 "GaugeColumns$Trial" "greatest" "I", Cond.classLink RX4 108 RX0, Cond.instantiable RX0 3, Cond.initialized RX0, Cond.methodLink RX4 95 yX5_prepare, Cond.instanceMethod yX5_prepare, Cond.selects RX5 yX5_prepare yX5_prepare, Cond.code yX5_prepare cX5_prepare 5 none, Cond.fieldLink RX5 28 "GaugeColumns$Tester" "ringCount" "I", Cond.fieldLink RX5 38 "GaugeColumns$Tester" "grams" "[I", Cond.fieldLink RX5 41 "GaugeColumns$Tester" "settings" "[I", Cond.fieldLink RX5 48 "GaugeColumns$Trial" "length" "I", Cond.methodLink RX5 34 yX4_placeOf]
def wsL_law_r17 : List Cond := [Cond.instanceMethod yX4_placeOf, Cond.selects RX4 yX4_placeOf yX4_placeOf, Cond.code yX4_placeOf cX4_placeOf 4 (some .int), Cond.methodLink RX5 44 yX4_pressureOf, Cond.methodLink RX4 101 yX5_run, Cond.instanceMethod yX5_run, Cond.selects RX5 yX5_run yX5_run, Cond.code yX5_run cX5_run 6 none, Cond.fieldLink RX5 51 "GaugeColumns$Gauge" "play" "I", Cond.fieldLink RX5 54 "GaugeColumns$Gauge" "step" "I", Cond.fieldLink RX5 61 "GaugeColumns$Trial" "greatest" "I", Cond.fieldLink RX5 64 "GaugeColumns$Trial" "worst" "I", Cond.methodLink RX5 75 Lib.Math.abs.name, Cond.methodLink RX5 57 yX1_begin, Cond.methodLink RX5 67 yX1_follow, Cond.methodLink RX5 71 yX1_shown, Cond.instanceMethod yX1_shown, Cond.selects RX1 yX1_shown yX1_shown, Cond.code yX1_shown cX1_shown 1 (some .int), Cond.methodLink RX4 110 yX0_init, Cond.instanceMethod yX0_init, Cond.code yX0_init cX0_init 3 none, Cond.methodLink RX0 1 objectInit, Cond.fieldLink RX0 7 "GaugeColumns$Trial" "readings" "[I"]
def wsL_law_r18 : List Cond := [Cond.fieldLink RX0 13 "GaugeColumns$Trial" "length" "I", Cond.fieldLink RX0 23 "GaugeColumns$Certificate" "readings" "[I", Cond.fieldLink RX0 26 "GaugeColumns$Trial" "greatest" "I", Cond.fieldLink RX0 29 "GaugeColumns$Certificate" "greatest" "I", Cond.fieldLink RX0 30 "GaugeColumns$Certificate" "air" "I", Cond.methodLink RX0 17 yJ7_copyOf_59c91, Cond.static yJ7_copyOf_59c91, Cond.initialized RJ7, Cond.code yJ7_copyOf_59c91 cJ7_copyOf_59c91 3 (some (.array .int)), Cond.methodLink RJ7 316 ⟨"[I", "clone", "()Ljava/lang/Object;"⟩, Cond.classLink RJ7 317 "[I", Cond.methodLink RJ7 304 Lib.Math.min.name, Cond.methodLink RJ7 150 arraycopyName, Cond.methodLink RL 48 yX7_certify, Cond.instanceMethod yX7_certify, Cond.selects RX7 yX7_certify yX7_certify, Cond.code yX7_certify cX7_certify 3 (some .int), Cond.methodLink RX7 150 yX7_whyNotCertified, Cond.instanceMethod yX7_whyNotCertified, Cond.selects RX7 yX7_whyNotCertified yX7_whyNotCertified, Cond.code yX7_whyNotCertified cX7_whyNotCertified 2 (some .int), Cond.methodLink RX7 153 yX7_certifies, Cond.instanceMethod yX7_certifies, Cond.selects RX7 yX7_certifies yX7_certifies]
def wsL_law_r19 : List Cond := [Cond.code yX7_certifies cX7_certifies 3 (some .int), Cond.fieldLink RX7 85 "GaugeColumnsModel" "greatest" "I", Cond.methodLink RX7 146 yX7_tests, Cond.instanceMethod yX7_tests, Cond.selects RX7 yX7_tests yX7_tests, Cond.code yX7_tests cX7_tests 10 none, Cond.fieldLink RX7 88 "GaugeColumnsModel" "placeOfGreatest" "I", Cond.methodLink RX7 91 yX7_findOrder, Cond.instanceMethod yX7_findOrder, Cond.selects RX7 yX7_findOrder yX7_findOrder, Cond.code yX7_findOrder cX7_findOrder 3 none, Cond.methodLink RX7 94 yX7_reads, Cond.static yX7_reads, Cond.code yX7_reads cX7_reads 2 (some .int), Cond.methodLink RL 49 yX6_ofRing, Cond.instanceMethod yX6_ofRing, Cond.selects RX6 yX6_ofRing yX6_ofRing, Cond.code yX6_ofRing cX6_ofRing 3 (some .int), Cond.fieldLink RX6 81 "GaugeColumns$Tester" "grams" "[I", Cond.methodLink RX6 77 yX4_hasRing, Cond.methodLink RX6 85 yX4_isStacked, Cond.methodLink RX6 88 yX4_placeOf, Cond.methodLink RL 52 yX7_ofRing, Cond.instanceMethod yX7_ofRing]
def wsL_law_r20 : List Cond := [Cond.selects RX7 yX7_ofRing yX7_ofRing, Cond.code yX7_ofRing cX7_ofRing 3 (some .int), Cond.methodLink RX7 156 yX7_placeOf, Cond.instanceMethod yX7_placeOf, Cond.selects RX7 yX7_placeOf yX7_placeOf, Cond.code yX7_placeOf cX7_placeOf 4 (some .int), Cond.methodLink RL 53 yX6_ofGauge, Cond.instanceMethod yX6_ofGauge, Cond.selects RX6 yX6_ofGauge yX6_ofGauge, Cond.code yX6_ofGauge cX6_ofGauge 4 (some .int), Cond.methodLink RX6 91 yX4_gaugeAt, Cond.methodLink RX6 95 yX1_tell, Cond.instanceMethod yX1_tell, Cond.selects RX1 yX1_tell yX1_tell, Cond.code yX1_tell cX1_tell 2 (some .int), Cond.fieldLink RX1 45 "GaugeColumns$Certificate" "greatest" "I", Cond.fieldLink RX1 50 "GaugeColumns$Certificate" "air" "I", Cond.methodLink RX1 41 yX1_shown, Cond.methodLink RL 56 yX7_ofGauge, Cond.instanceMethod yX7_ofGauge, Cond.selects RX7 yX7_ofGauge yX7_ofGauge, Cond.code yX7_ofGauge cX7_ofGauge 4 (some .int), Cond.methodLink RL 57 yX6_reading, Cond.instanceMethod yX6_reading]
def wsL_law_r21 : List Cond := [Cond.selects RX6 yX6_reading yX6_reading, Cond.code yX6_reading cX6_reading 5 (some .int), Cond.fieldLink RX6 100 "GaugeColumns$Gauge" "certificate" "LGaugeColumns$Certificate;", Cond.fieldLink RX6 104 "GaugeColumns$Certificate" "readings" "[I", Cond.methodLink RL 60 yX7_reading, Cond.instanceMethod yX7_reading, Cond.selects RX7 yX7_reading yX7_reading, Cond.code yX7_reading cX7_reading 3 (some .int), Cond.methodLink RL 61 yX6_count, Cond.instanceMethod yX6_count, Cond.selects RX6 yX6_count yX6_count, Cond.code yX6_count cX6_count 2 (some .int), Cond.fieldLink RX6 109 "GaugeColumns$Tester" "ringCount" "I", Cond.fieldLink RX6 113 "GaugeColumns$Tester" "gaugeCount" "I", Cond.fieldLink RX6 116 "GaugeColumns$Tester" "column" "I", Cond.fieldLink RX6 122 "GaugeColumns$Tester" "settings" "[I", Cond.fieldLink RX6 134 "GaugeColumns$Pad" "length" "I", Cond.fieldLink RX6 137 "GaugeColumns$History" "kept" "I", Cond.methodLink RX6 119 yX4_massOf, Cond.methodLink RX6 125 yX6_weightOf, Cond.methodLink RX6 128 yX4_columnPressure, Cond.methodLink RX6 131 yX4_countCertificates, Cond.instanceMethod yX4_countCertificates, Cond.selects RX4 yX4_countCertificates yX4_countCertificates]
def wsL_law_r22 : List Cond := [Cond.code yX4_countCertificates cX4_countCertificates 3 (some .int), Cond.methodLink RL 64 yX7_count, Cond.instanceMethod yX7_count, Cond.selects RX7 yX7_count yX7_count, Cond.code yX7_count cX7_count 2 (some .int), Cond.fieldLink RX7 163 "GaugeColumnsModel" "padLength" "I", Cond.methodLink RX7 159 yX7_certificates, Cond.instanceMethod yX7_certificates, Cond.selects RX7 yX7_certificates yX7_certificates, Cond.code yX7_certificates cX7_certificates 3 (some .int), Cond.methodLink RL 65 yX6_pressure, Cond.instanceMethod yX6_pressure, Cond.selects RX6 yX6_pressure yX6_pressure, Cond.code yX6_pressure cX6_pressure 2 (some .int), Cond.methodLink RX6 140 yX4_pressureOf, Cond.methodLink RL 68 yX7_pressure, Cond.instanceMethod yX7_pressure, Cond.selects RX7 yX7_pressure yX7_pressure, Cond.code yX7_pressure cX7_pressure 2 (some .int), Cond.methodLink RL 69 yX6_nearest, Cond.instanceMethod yX6_nearest, Cond.selects RX6 yX6_nearest yX6_nearest, Cond.code yX6_nearest cX6_nearest 4 (some .int), Cond.methodLink RX6 143 yX4_nearestTo]
def wsL_law_r23 : List Cond := [Cond.instanceMethod yX4_nearestTo, Cond.selects RX4 yX4_nearestTo yX4_nearestTo, Cond.code yX4_nearestTo cX4_nearestTo 7 (some .int), Cond.constant RX4 127 (2147483647), Cond.methodLink RX4 128 Lib.Math.abs.name, Cond.methodLink RX4 133 yJ6_bitCount_0f7a4, Cond.static yJ6_bitCount_0f7a4, Cond.initialized RJ6, Cond.code yJ6_bitCount_0f7a4 cJ6_bitCount_0f7a4 1 (some .int), Cond.constant RJ6 265 (1431655765), Cond.constant RJ6 266 (858993459), Cond.constant RJ6 267 (252645135), Cond.methodLink RX4 138 yX4_massToNext, Cond.instanceMethod yX4_massToNext, Cond.selects RX4 yX4_massToNext yX4_massToNext, Cond.code yX4_massToNext cX4_massToNext 4 (some .int), Cond.methodLink RL 72 yX7_nearest, Cond.instanceMethod yX7_nearest, Cond.selects RX7 yX7_nearest yX7_nearest, Cond.code yX7_nearest cX7_nearest 7 (some .int), Cond.methodLink RX7 166 yX7_bits, Cond.static yX7_bits, Cond.code yX7_bits cX7_bits 3 (some .int), Cond.methodLink RL 73 yX6_test]
def wsL_law_r24 : List Cond := [Cond.instanceMethod yX6_test, Cond.selects RX6 yX6_test yX6_test, Cond.code yX6_test cX6_test 4 (some .int), Cond.fieldLink RX6 149 "GaugeColumns$Gauge" "error" "I", Cond.fieldLink RX6 156 "GaugeColumns$Trial" "greatest" "I", Cond.fieldLink RX6 159 "GaugeColumns$Trial" "worst" "I", Cond.fieldLink RX6 162 "GaugeColumns$Trial" "length" "I", Cond.methodLink RX6 146 yX5_prepare, Cond.methodLink RX6 152 yX5_run, Cond.methodLink RL 76 yX7_test, Cond.instanceMethod yX7_test, Cond.selects RX7 yX7_test yX7_test, Cond.code yX7_test cX7_test 3 (some .int), Cond.methodLink RL 77 yX6_bestError, Cond.instanceMethod yX6_bestError, Cond.selects RX6 yX6_bestError yX6_bestError, Cond.code yX6_bestError cX6_bestError 7 (some .int), Cond.constant RX6 163 (2147483647), Cond.methodLink RL 80 yX7_bestError, Cond.instanceMethod yX7_bestError, Cond.selects RX7 yX7_bestError yX7_bestError, Cond.code yX7_bestError cX7_bestError 7 (some .int), Cond.methodLink RL 81 yX6_airCosts, Cond.instanceMethod yX6_airCosts]
def wsL_law_r25 : List Cond := [Cond.selects RX6 yX6_airCosts yX6_airCosts, Cond.code yX6_airCosts cX6_airCosts 2 (some .int), Cond.fieldLink RX6 164 "GaugeColumns" "LEAST" "[I", Cond.fieldLink RX6 167 "GaugeColumns" "MOST" "[I", Cond.methodLink RL 84 yX7_airCosts, Cond.instanceMethod yX7_airCosts, Cond.selects RX7 yX7_airCosts yX7_airCosts, Cond.code yX7_airCosts cX7_airCosts 3 (some .int), Cond.methodLink RL 87 yX6_put, Cond.instanceMethod yX6_put, Cond.selects RX6 yX6_put yX6_put, Cond.code yX6_put cX6_put 3 (some .int), Cond.methodLink RX6 170 yX3_append, Cond.instanceMethod yX3_append, Cond.selects RX3 yX3_append yX3_append, Cond.code yX3_append cX3_append 5 (some .int), Cond.fieldLink RX3 23 "GaugeColumns$Pad" "length" "I", Cond.constantLong RX3 27 (255), Cond.methodLink RX3 19 yX3_howMany, Cond.static yX3_howMany, Cond.code yX3_howMany cX3_howMany 5 (some .int), Cond.constantLong RX3 29 (33), Cond.constantLong RX3 31 (126), Cond.methodLink RL 91 yX7_put]
def wsL_law_r26 : List Cond := [Cond.instanceMethod yX7_put, Cond.selects RX7 yX7_put yX7_put, Cond.code yX7_put cX7_put 8 (some .int), Cond.constantLong RX7 169 (255), Cond.methodLink RL 92 yX6_wipe, Cond.instanceMethod yX6_wipe, Cond.selects RX6 yX6_wipe yX6_wipe, Cond.code yX6_wipe cX6_wipe 1 (some .int), Cond.methodLink RX6 174 yX3_clear, Cond.instanceMethod yX3_clear, Cond.selects RX3 yX3_clear yX3_clear, Cond.code yX3_clear cX3_clear 2 (some .int), Cond.methodLink RL 95 yX7_wipe, Cond.instanceMethod yX7_wipe, Cond.selects RX7 yX7_wipe yX7_wipe, Cond.code yX7_wipe cX7_wipe 2 (some .int), Cond.methodLink RL 96 yX6_fault, Cond.instanceMethod yX6_fault, Cond.selects RX6 yX6_fault yX6_fault, Cond.code yX6_fault cX6_fault 1 (some .int), Cond.methodLink RX6 177 yX3_findFault, Cond.instanceMethod yX3_findFault, Cond.selects RX3 yX3_findFault yX3_findFault, Cond.code yX3_findFault cX3_findFault 3 (some .int)]
def wsL_law_r27 : List Cond := [Cond.fieldLink RX3 40 "GaugeColumns$Pad" "cursor" "I", Cond.methodLink RX3 33 yX3_rewind, Cond.instanceMethod yX3_rewind, Cond.selects RX3 yX3_rewind yX3_rewind, Cond.code yX3_rewind cX3_rewind 1 none, Cond.methodLink RX3 36 yX3_nextOrder, Cond.instanceMethod yX3_nextOrder, Cond.selects RX3 yX3_nextOrder yX3_nextOrder, Cond.code yX3_nextOrder cX3_nextOrder 1 (some .boolean), Cond.fieldLink RX3 51 "GaugeColumns$Pad" "kind" "I", Cond.methodLink RX3 43 yX3_pass, Cond.instanceMethod yX3_pass, Cond.selects RX3 yX3_pass yX3_pass, Cond.code yX3_pass cX3_pass 2 (some .boolean), Cond.methodLink RX3 47 yX3_signAt, Cond.instanceMethod yX3_signAt, Cond.selects RX3 yX3_signAt yX3_signAt, Cond.code yX3_signAt cX3_signAt 2 (some .int), Cond.methodLink RX3 54 yX3_readNumber, Cond.instanceMethod yX3_readNumber, Cond.selects RX3 yX3_readNumber yX3_readNumber, Cond.code yX3_readNumber cX3_readNumber 4 (some .boolean), Cond.methodLink RX3 63 yX3_isDigit, Cond.static yX3_isDigit]
def wsL_law_r28 : List Cond := [Cond.code yX3_isDigit cX3_isDigit 1 (some .boolean), Cond.methodLink RX3 57 yX3_readDigit, Cond.instanceMethod yX3_readDigit, Cond.selects RX3 yX3_readDigit yX3_readDigit, Cond.code yX3_readDigit cX3_readDigit 2 (some .boolean), Cond.methodLink RX3 60 yX3_readValue, Cond.instanceMethod yX3_readValue, Cond.selects RX3 yX3_readValue yX3_readValue, Cond.code yX3_readValue cX3_readValue 2 (some .boolean), Cond.methodLink RL 99 yX7_fault, Cond.instanceMethod yX7_fault, Cond.selects RX7 yX7_fault yX7_fault, Cond.code yX7_fault cX7_fault 1 (some .int), Cond.methodLink RX7 205 yX7_findFault, Cond.instanceMethod yX7_findFault, Cond.selects RX7 yX7_findFault yX7_findFault, Cond.code yX7_findFault cX7_findFault 1 (some .int), Cond.fieldLink RX7 171 "GaugeColumnsModel" "at" "I", Cond.methodLink RX7 202 yX7_readsOrder, Cond.instanceMethod yX7_readsOrder, Cond.selects RX7 yX7_readsOrder yX7_readsOrder, Cond.code yX7_readsOrder cX7_readsOrder 1 (some .boolean), Cond.fieldLink RX7 195 "GaugeColumnsModel" "letter" "I", Cond.fieldLink RX7 186 "GaugeColumnsModel" "first" "I"]
def wsL_law_r29 : List Cond := [Cond.methodLink RX7 174 yX7_character, Cond.instanceMethod yX7_character, Cond.selects RX7 yX7_character yX7_character, Cond.code yX7_character cX7_character 2 (some .int), Cond.methodLink RX7 183 yX7_takeNumber, Cond.instanceMethod yX7_takeNumber, Cond.selects RX7 yX7_takeNumber yX7_takeNumber, Cond.code yX7_takeNumber cX7_takeNumber 2 (some .int), Cond.methodLink RX7 177 yX7_takeDigit, Cond.instanceMethod yX7_takeDigit, Cond.selects RX7 yX7_takeDigit yX7_takeDigit, Cond.code yX7_takeDigit cX7_takeDigit 2 (some .int), Cond.methodLink RX7 198 yX7_readsGauge, Cond.instanceMethod yX7_readsGauge, Cond.selects RX7 yX7_readsGauge yX7_readsGauge, Cond.code yX7_readsGauge cX7_readsGauge 3 (some .boolean), Cond.fieldLink RX7 189 "GaugeColumnsModel" "second" "I", Cond.fieldLink RX7 192 "GaugeColumnsModel" "third" "I", Cond.methodLink RX7 180 yX7_isNext, Cond.instanceMethod yX7_isNext, Cond.selects RX7 yX7_isNext yX7_isNext, Cond.code yX7_isNext cX7_isNext 3 (some .boolean), Cond.methodLink RL 100 yX6_carryOut, Cond.instanceMethod yX6_carryOut]
def wsL_law_r30 : List Cond := [Cond.selects RX6 yX6_carryOut yX6_carryOut, Cond.code yX6_carryOut cX6_carryOut 2 (some .int), Cond.methodLink RX6 180 yX3_rewind, Cond.methodLink RX6 183 yX3_nextOrder, Cond.methodLink RX6 187 yX6_carryOutOrder, Cond.instanceMethod yX6_carryOutOrder, Cond.selects RX6 yX6_carryOutOrder yX6_carryOutOrder, Cond.code yX6_carryOutOrder cX6_carryOutOrder 2 (some .int), Cond.fieldLink RX6 190 "GaugeColumns$Pad" "numbers" "[I", Cond.fieldLink RX6 193 "GaugeColumns$Pad" "kind" "I", Cond.methodLink RL 103 yX7_carryOut, Cond.instanceMethod yX7_carryOut, Cond.selects RX7 yX7_carryOut yX7_carryOut, Cond.code yX7_carryOut cX7_carryOut 3 (some .int), Cond.methodLink RX7 208 yX7_whyNotDone, Cond.instanceMethod yX7_whyNotDone, Cond.selects RX7 yX7_whyNotDone yX7_whyNotDone, Cond.code yX7_whyNotDone cX7_whyNotDone 1 (some .int), Cond.methodLink RX7 211 yX7_does, Cond.instanceMethod yX7_does, Cond.selects RX7 yX7_does yX7_does, Cond.code yX7_does cX7_does 1 none, Cond.methodLink RL 104 yX6_undo, Cond.instanceMethod yX6_undo]
def wsL_law_r31 : List Cond := [Cond.selects RX6 yX6_undo yX6_undo, Cond.code yX6_undo cX6_undo 1 (some .int), Cond.methodLink RX6 196 yX2_stepBack, Cond.instanceMethod yX2_stepBack, Cond.selects RX2 yX2_stepBack yX2_stepBack, Cond.code yX2_stepBack cX2_stepBack 2 (some .int), Cond.methodLink RL 107 yX7_undo, Cond.instanceMethod yX7_undo, Cond.selects RX7 yX7_undo yX7_undo, Cond.code yX7_undo cX7_undo 1 (some .int), Cond.methodLink RL 108 yX6_save, Cond.instanceMethod yX6_save, Cond.selects RX6 yX6_save yX6_save, Cond.code yX6_save cX6_save 2 (some .int), Cond.methodLink RX6 200 yX4_copyFrom, Cond.methodLink RL 111 yX7_save, Cond.instanceMethod yX7_save, Cond.selects RX7 yX7_save yX7_save, Cond.code yX7_save cX7_save 2 (some .int), Cond.methodLink RL 112 yX6_restore, Cond.instanceMethod yX6_restore, Cond.selects RX6 yX6_restore yX6_restore, Cond.code yX6_restore cX6_restore 2 (some .int), Cond.methodLink RL 115 yX7_restore]
def wsL_law_r32 : List Cond := [Cond.instanceMethod yX7_restore, Cond.selects RX7 yX7_restore yX7_restore, Cond.code yX7_restore cX7_restore 2 (some .int)]
def wsL_law : List Cond := (wsL_law_r1 ++ (wsL_law_r2 ++ (wsL_law_r3 ++ (wsL_law_r4 ++ (wsL_law_r5 ++ (wsL_law_r6 ++ (wsL_law_r7 ++ (wsL_law_r8 ++ (wsL_law_r9 ++ (wsL_law_r10 ++ (wsL_law_r11 ++ (wsL_law_r12 ++ (wsL_law_r13 ++ (wsL_law_r14 ++ (wsL_law_r15 ++ (wsL_law_r16 ++ (wsL_law_r17 ++ (wsL_law_r18 ++ (wsL_law_r19 ++ (wsL_law_r20 ++ (wsL_law_r21 ++ (wsL_law_r22 ++ (wsL_law_r23 ++ (wsL_law_r24 ++ (wsL_law_r25 ++ (wsL_law_r26 ++ (wsL_law_r27 ++ (wsL_law_r28 ++ (wsL_law_r29 ++ (wsL_law_r30 ++ (wsL_law_r31 ++ wsL_law_r32))))))))))))))))))))))))))))))) ++ wsX60 ++ wsX70 ++ wsX40 ++ wsX20 ++ wsX50 ++ wsX30 ++ wsX10 ++ wsX00 ++ ([] : List Cond)
/-! ===== END printed ===== -/
theorem wc_1 : ∀ w ∈ wsL_law_r1, w ∈ wsL_law := fun w h => List.mem_append_left _ (List.mem_append_left _ (List.mem_append_left _ (List.mem_append_left _ (List.mem_append_left _ (List.mem_append_left _ (List.mem_append_left _ (List.mem_append_left _ (List.mem_append_left _ (List.mem_append_left _ h)))))))))
theorem wc_2 : ∀ w ∈ wsL_law_r2, w ∈ wsL_law := fun w h => List.mem_append_left _ (List.mem_append_left _ (List.mem_append_left _ (List.mem_append_left _ (List.mem_append_left _ (List.mem_append_left _ (List.mem_append_left _ (List.mem_append_left _ (List.mem_append_left _ (List.mem_append_right _ (List.mem_append_left _ h))))))))))
theorem wc_3 : ∀ w ∈ wsL_law_r3, w ∈ wsL_law := fun w h => List.mem_append_left _ (List.mem_append_left _ (List.mem_append_left _ (List.mem_append_left _ (List.mem_append_left _ (List.mem_append_left _ (List.mem_append_left _ (List.mem_append_left _ (List.mem_append_left _ (List.mem_append_right _ (List.mem_append_right _ (List.mem_append_left _ h)))))))))))
theorem wc_4 : ∀ w ∈ wsL_law_r4, w ∈ wsL_law := fun w h => List.mem_append_left _ (List.mem_append_left _ (List.mem_append_left _ (List.mem_append_left _ (List.mem_append_left _ (List.mem_append_left _ (List.mem_append_left _ (List.mem_append_left _ (List.mem_append_left _ (List.mem_append_right _ (List.mem_append_right _ (List.mem_append_right _ (List.mem_append_left _ h))))))))))))
theorem wc_5 : ∀ w ∈ wsL_law_r5, w ∈ wsL_law := fun w h => List.mem_append_left _ (List.mem_append_left _ (List.mem_append_left _ (List.mem_append_left _ (List.mem_append_left _ (List.mem_append_left _ (List.mem_append_left _ (List.mem_append_left _ (List.mem_append_left _ (List.mem_append_right _ (List.mem_append_right _ (List.mem_append_right _ (List.mem_append_right _ (List.mem_append_left _ h)))))))))))))
theorem wc_6 : ∀ w ∈ wsL_law_r6, w ∈ wsL_law := fun w h => List.mem_append_left _ (List.mem_append_left _ (List.mem_append_left _ (List.mem_append_left _ (List.mem_append_left _ (List.mem_append_left _ (List.mem_append_left _ (List.mem_append_left _ (List.mem_append_left _ (List.mem_append_right _ (List.mem_append_right _ (List.mem_append_right _ (List.mem_append_right _ (List.mem_append_right _ (List.mem_append_left _ h))))))))))))))
theorem wc_7 : ∀ w ∈ wsL_law_r7, w ∈ wsL_law := fun w h => List.mem_append_left _ (List.mem_append_left _ (List.mem_append_left _ (List.mem_append_left _ (List.mem_append_left _ (List.mem_append_left _ (List.mem_append_left _ (List.mem_append_left _ (List.mem_append_left _ (List.mem_append_right _ (List.mem_append_right _ (List.mem_append_right _ (List.mem_append_right _ (List.mem_append_right _ (List.mem_append_right _ (List.mem_append_left _ h)))))))))))))))
theorem wc_8 : ∀ w ∈ wsL_law_r8, w ∈ wsL_law := fun w h => List.mem_append_left _ (List.mem_append_left _ (List.mem_append_left _ (List.mem_append_left _ (List.mem_append_left _ (List.mem_append_left _ (List.mem_append_left _ (List.mem_append_left _ (List.mem_append_left _ (List.mem_append_right _ (List.mem_append_right _ (List.mem_append_right _ (List.mem_append_right _ (List.mem_append_right _ (List.mem_append_right _ (List.mem_append_right _ (List.mem_append_left _ h))))))))))))))))
theorem wc_9 : ∀ w ∈ wsL_law_r9, w ∈ wsL_law := fun w h => List.mem_append_left _ (List.mem_append_left _ (List.mem_append_left _ (List.mem_append_left _ (List.mem_append_left _ (List.mem_append_left _ (List.mem_append_left _ (List.mem_append_left _ (List.mem_append_left _ (List.mem_append_right _ (List.mem_append_right _ (List.mem_append_right _ (List.mem_append_right _ (List.mem_append_right _ (List.mem_append_right _ (List.mem_append_right _ (List.mem_append_right _ (List.mem_append_left _ h)))))))))))))))))
theorem wc_10 : ∀ w ∈ wsL_law_r10, w ∈ wsL_law := fun w h => List.mem_append_left _ (List.mem_append_left _ (List.mem_append_left _ (List.mem_append_left _ (List.mem_append_left _ (List.mem_append_left _ (List.mem_append_left _ (List.mem_append_left _ (List.mem_append_left _ (List.mem_append_right _ (List.mem_append_right _ (List.mem_append_right _ (List.mem_append_right _ (List.mem_append_right _ (List.mem_append_right _ (List.mem_append_right _ (List.mem_append_right _ (List.mem_append_right _ (List.mem_append_left _ h))))))))))))))))))
theorem wc_11 : ∀ w ∈ wsL_law_r11, w ∈ wsL_law := fun w h => List.mem_append_left _ (List.mem_append_left _ (List.mem_append_left _ (List.mem_append_left _ (List.mem_append_left _ (List.mem_append_left _ (List.mem_append_left _ (List.mem_append_left _ (List.mem_append_left _ (List.mem_append_right _ (List.mem_append_right _ (List.mem_append_right _ (List.mem_append_right _ (List.mem_append_right _ (List.mem_append_right _ (List.mem_append_right _ (List.mem_append_right _ (List.mem_append_right _ (List.mem_append_right _ (List.mem_append_left _ h)))))))))))))))))))
theorem wc_12 : ∀ w ∈ wsL_law_r12, w ∈ wsL_law := fun w h => List.mem_append_left _ (List.mem_append_left _ (List.mem_append_left _ (List.mem_append_left _ (List.mem_append_left _ (List.mem_append_left _ (List.mem_append_left _ (List.mem_append_left _ (List.mem_append_left _ (List.mem_append_right _ (List.mem_append_right _ (List.mem_append_right _ (List.mem_append_right _ (List.mem_append_right _ (List.mem_append_right _ (List.mem_append_right _ (List.mem_append_right _ (List.mem_append_right _ (List.mem_append_right _ (List.mem_append_right _ (List.mem_append_left _ h))))))))))))))))))))
theorem wc_13 : ∀ w ∈ wsL_law_r13, w ∈ wsL_law := fun w h => List.mem_append_left _ (List.mem_append_left _ (List.mem_append_left _ (List.mem_append_left _ (List.mem_append_left _ (List.mem_append_left _ (List.mem_append_left _ (List.mem_append_left _ (List.mem_append_left _ (List.mem_append_right _ (List.mem_append_right _ (List.mem_append_right _ (List.mem_append_right _ (List.mem_append_right _ (List.mem_append_right _ (List.mem_append_right _ (List.mem_append_right _ (List.mem_append_right _ (List.mem_append_right _ (List.mem_append_right _ (List.mem_append_right _ (List.mem_append_left _ h)))))))))))))))))))))
theorem wc_14 : ∀ w ∈ wsL_law_r14, w ∈ wsL_law := fun w h => List.mem_append_left _ (List.mem_append_left _ (List.mem_append_left _ (List.mem_append_left _ (List.mem_append_left _ (List.mem_append_left _ (List.mem_append_left _ (List.mem_append_left _ (List.mem_append_left _ (List.mem_append_right _ (List.mem_append_right _ (List.mem_append_right _ (List.mem_append_right _ (List.mem_append_right _ (List.mem_append_right _ (List.mem_append_right _ (List.mem_append_right _ (List.mem_append_right _ (List.mem_append_right _ (List.mem_append_right _ (List.mem_append_right _ (List.mem_append_right _ (List.mem_append_left _ h))))))))))))))))))))))
theorem wc_15 : ∀ w ∈ wsL_law_r15, w ∈ wsL_law := fun w h => List.mem_append_left _ (List.mem_append_left _ (List.mem_append_left _ (List.mem_append_left _ (List.mem_append_left _ (List.mem_append_left _ (List.mem_append_left _ (List.mem_append_left _ (List.mem_append_left _ (List.mem_append_right _ (List.mem_append_right _ (List.mem_append_right _ (List.mem_append_right _ (List.mem_append_right _ (List.mem_append_right _ (List.mem_append_right _ (List.mem_append_right _ (List.mem_append_right _ (List.mem_append_right _ (List.mem_append_right _ (List.mem_append_right _ (List.mem_append_right _ (List.mem_append_right _ (List.mem_append_left _ h)))))))))))))))))))))))
theorem wc_16 : ∀ w ∈ wsL_law_r16, w ∈ wsL_law := fun w h => List.mem_append_left _ (List.mem_append_left _ (List.mem_append_left _ (List.mem_append_left _ (List.mem_append_left _ (List.mem_append_left _ (List.mem_append_left _ (List.mem_append_left _ (List.mem_append_left _ (List.mem_append_right _ (List.mem_append_right _ (List.mem_append_right _ (List.mem_append_right _ (List.mem_append_right _ (List.mem_append_right _ (List.mem_append_right _ (List.mem_append_right _ (List.mem_append_right _ (List.mem_append_right _ (List.mem_append_right _ (List.mem_append_right _ (List.mem_append_right _ (List.mem_append_right _ (List.mem_append_right _ (List.mem_append_left _ h))))))))))))))))))))))))
theorem wc_17 : ∀ w ∈ wsL_law_r17, w ∈ wsL_law := fun w h => List.mem_append_left _ (List.mem_append_left _ (List.mem_append_left _ (List.mem_append_left _ (List.mem_append_left _ (List.mem_append_left _ (List.mem_append_left _ (List.mem_append_left _ (List.mem_append_left _ (List.mem_append_right _ (List.mem_append_right _ (List.mem_append_right _ (List.mem_append_right _ (List.mem_append_right _ (List.mem_append_right _ (List.mem_append_right _ (List.mem_append_right _ (List.mem_append_right _ (List.mem_append_right _ (List.mem_append_right _ (List.mem_append_right _ (List.mem_append_right _ (List.mem_append_right _ (List.mem_append_right _ (List.mem_append_right _ (List.mem_append_left _ h)))))))))))))))))))))))))
theorem wc_18 : ∀ w ∈ wsL_law_r18, w ∈ wsL_law := fun w h => List.mem_append_left _ (List.mem_append_left _ (List.mem_append_left _ (List.mem_append_left _ (List.mem_append_left _ (List.mem_append_left _ (List.mem_append_left _ (List.mem_append_left _ (List.mem_append_left _ (List.mem_append_right _ (List.mem_append_right _ (List.mem_append_right _ (List.mem_append_right _ (List.mem_append_right _ (List.mem_append_right _ (List.mem_append_right _ (List.mem_append_right _ (List.mem_append_right _ (List.mem_append_right _ (List.mem_append_right _ (List.mem_append_right _ (List.mem_append_right _ (List.mem_append_right _ (List.mem_append_right _ (List.mem_append_right _ (List.mem_append_right _ (List.mem_append_left _ h))))))))))))))))))))))))))
theorem wc_19 : ∀ w ∈ wsL_law_r19, w ∈ wsL_law := fun w h => List.mem_append_left _ (List.mem_append_left _ (List.mem_append_left _ (List.mem_append_left _ (List.mem_append_left _ (List.mem_append_left _ (List.mem_append_left _ (List.mem_append_left _ (List.mem_append_left _ (List.mem_append_right _ (List.mem_append_right _ (List.mem_append_right _ (List.mem_append_right _ (List.mem_append_right _ (List.mem_append_right _ (List.mem_append_right _ (List.mem_append_right _ (List.mem_append_right _ (List.mem_append_right _ (List.mem_append_right _ (List.mem_append_right _ (List.mem_append_right _ (List.mem_append_right _ (List.mem_append_right _ (List.mem_append_right _ (List.mem_append_right _ (List.mem_append_right _ (List.mem_append_left _ h)))))))))))))))))))))))))))
theorem wc_20 : ∀ w ∈ wsL_law_r20, w ∈ wsL_law := fun w h => List.mem_append_left _ (List.mem_append_left _ (List.mem_append_left _ (List.mem_append_left _ (List.mem_append_left _ (List.mem_append_left _ (List.mem_append_left _ (List.mem_append_left _ (List.mem_append_left _ (List.mem_append_right _ (List.mem_append_right _ (List.mem_append_right _ (List.mem_append_right _ (List.mem_append_right _ (List.mem_append_right _ (List.mem_append_right _ (List.mem_append_right _ (List.mem_append_right _ (List.mem_append_right _ (List.mem_append_right _ (List.mem_append_right _ (List.mem_append_right _ (List.mem_append_right _ (List.mem_append_right _ (List.mem_append_right _ (List.mem_append_right _ (List.mem_append_right _ (List.mem_append_right _ (List.mem_append_left _ h))))))))))))))))))))))))))))
theorem wc_21 : ∀ w ∈ wsL_law_r21, w ∈ wsL_law := fun w h => List.mem_append_left _ (List.mem_append_left _ (List.mem_append_left _ (List.mem_append_left _ (List.mem_append_left _ (List.mem_append_left _ (List.mem_append_left _ (List.mem_append_left _ (List.mem_append_left _ (List.mem_append_right _ (List.mem_append_right _ (List.mem_append_right _ (List.mem_append_right _ (List.mem_append_right _ (List.mem_append_right _ (List.mem_append_right _ (List.mem_append_right _ (List.mem_append_right _ (List.mem_append_right _ (List.mem_append_right _ (List.mem_append_right _ (List.mem_append_right _ (List.mem_append_right _ (List.mem_append_right _ (List.mem_append_right _ (List.mem_append_right _ (List.mem_append_right _ (List.mem_append_right _ (List.mem_append_right _ (List.mem_append_left _ h)))))))))))))))))))))))))))))
theorem wc_22 : ∀ w ∈ wsL_law_r22, w ∈ wsL_law := fun w h => List.mem_append_left _ (List.mem_append_left _ (List.mem_append_left _ (List.mem_append_left _ (List.mem_append_left _ (List.mem_append_left _ (List.mem_append_left _ (List.mem_append_left _ (List.mem_append_left _ (List.mem_append_right _ (List.mem_append_right _ (List.mem_append_right _ (List.mem_append_right _ (List.mem_append_right _ (List.mem_append_right _ (List.mem_append_right _ (List.mem_append_right _ (List.mem_append_right _ (List.mem_append_right _ (List.mem_append_right _ (List.mem_append_right _ (List.mem_append_right _ (List.mem_append_right _ (List.mem_append_right _ (List.mem_append_right _ (List.mem_append_right _ (List.mem_append_right _ (List.mem_append_right _ (List.mem_append_right _ (List.mem_append_right _ (List.mem_append_left _ h))))))))))))))))))))))))))))))
theorem wc_23 : ∀ w ∈ wsL_law_r23, w ∈ wsL_law := fun w h => List.mem_append_left _ (List.mem_append_left _ (List.mem_append_left _ (List.mem_append_left _ (List.mem_append_left _ (List.mem_append_left _ (List.mem_append_left _ (List.mem_append_left _ (List.mem_append_left _ (List.mem_append_right _ (List.mem_append_right _ (List.mem_append_right _ (List.mem_append_right _ (List.mem_append_right _ (List.mem_append_right _ (List.mem_append_right _ (List.mem_append_right _ (List.mem_append_right _ (List.mem_append_right _ (List.mem_append_right _ (List.mem_append_right _ (List.mem_append_right _ (List.mem_append_right _ (List.mem_append_right _ (List.mem_append_right _ (List.mem_append_right _ (List.mem_append_right _ (List.mem_append_right _ (List.mem_append_right _ (List.mem_append_right _ (List.mem_append_right _ (List.mem_append_left _ h)))))))))))))))))))))))))))))))
theorem wc_24 : ∀ w ∈ wsL_law_r24, w ∈ wsL_law := fun w h => List.mem_append_left _ (List.mem_append_left _ (List.mem_append_left _ (List.mem_append_left _ (List.mem_append_left _ (List.mem_append_left _ (List.mem_append_left _ (List.mem_append_left _ (List.mem_append_left _ (List.mem_append_right _ (List.mem_append_right _ (List.mem_append_right _ (List.mem_append_right _ (List.mem_append_right _ (List.mem_append_right _ (List.mem_append_right _ (List.mem_append_right _ (List.mem_append_right _ (List.mem_append_right _ (List.mem_append_right _ (List.mem_append_right _ (List.mem_append_right _ (List.mem_append_right _ (List.mem_append_right _ (List.mem_append_right _ (List.mem_append_right _ (List.mem_append_right _ (List.mem_append_right _ (List.mem_append_right _ (List.mem_append_right _ (List.mem_append_right _ (List.mem_append_right _ (List.mem_append_left _ h))))))))))))))))))))))))))))))))
theorem wc_25 : ∀ w ∈ wsL_law_r25, w ∈ wsL_law := fun w h => List.mem_append_left _ (List.mem_append_left _ (List.mem_append_left _ (List.mem_append_left _ (List.mem_append_left _ (List.mem_append_left _ (List.mem_append_left _ (List.mem_append_left _ (List.mem_append_left _ (List.mem_append_right _ (List.mem_append_right _ (List.mem_append_right _ (List.mem_append_right _ (List.mem_append_right _ (List.mem_append_right _ (List.mem_append_right _ (List.mem_append_right _ (List.mem_append_right _ (List.mem_append_right _ (List.mem_append_right _ (List.mem_append_right _ (List.mem_append_right _ (List.mem_append_right _ (List.mem_append_right _ (List.mem_append_right _ (List.mem_append_right _ (List.mem_append_right _ (List.mem_append_right _ (List.mem_append_right _ (List.mem_append_right _ (List.mem_append_right _ (List.mem_append_right _ (List.mem_append_right _ (List.mem_append_left _ h)))))))))))))))))))))))))))))))))
theorem wc_26 : ∀ w ∈ wsL_law_r26, w ∈ wsL_law := fun w h => List.mem_append_left _ (List.mem_append_left _ (List.mem_append_left _ (List.mem_append_left _ (List.mem_append_left _ (List.mem_append_left _ (List.mem_append_left _ (List.mem_append_left _ (List.mem_append_left _ (List.mem_append_right _ (List.mem_append_right _ (List.mem_append_right _ (List.mem_append_right _ (List.mem_append_right _ (List.mem_append_right _ (List.mem_append_right _ (List.mem_append_right _ (List.mem_append_right _ (List.mem_append_right _ (List.mem_append_right _ (List.mem_append_right _ (List.mem_append_right _ (List.mem_append_right _ (List.mem_append_right _ (List.mem_append_right _ (List.mem_append_right _ (List.mem_append_right _ (List.mem_append_right _ (List.mem_append_right _ (List.mem_append_right _ (List.mem_append_right _ (List.mem_append_right _ (List.mem_append_right _ (List.mem_append_right _ (List.mem_append_left _ h))))))))))))))))))))))))))))))))))
theorem wc_27 : ∀ w ∈ wsL_law_r27, w ∈ wsL_law := fun w h => List.mem_append_left _ (List.mem_append_left _ (List.mem_append_left _ (List.mem_append_left _ (List.mem_append_left _ (List.mem_append_left _ (List.mem_append_left _ (List.mem_append_left _ (List.mem_append_left _ (List.mem_append_right _ (List.mem_append_right _ (List.mem_append_right _ (List.mem_append_right _ (List.mem_append_right _ (List.mem_append_right _ (List.mem_append_right _ (List.mem_append_right _ (List.mem_append_right _ (List.mem_append_right _ (List.mem_append_right _ (List.mem_append_right _ (List.mem_append_right _ (List.mem_append_right _ (List.mem_append_right _ (List.mem_append_right _ (List.mem_append_right _ (List.mem_append_right _ (List.mem_append_right _ (List.mem_append_right _ (List.mem_append_right _ (List.mem_append_right _ (List.mem_append_right _ (List.mem_append_right _ (List.mem_append_right _ (List.mem_append_right _ (List.mem_append_left _ h)))))))))))))))))))))))))))))))))))
theorem wc_28 : ∀ w ∈ wsL_law_r28, w ∈ wsL_law := fun w h => List.mem_append_left _ (List.mem_append_left _ (List.mem_append_left _ (List.mem_append_left _ (List.mem_append_left _ (List.mem_append_left _ (List.mem_append_left _ (List.mem_append_left _ (List.mem_append_left _ (List.mem_append_right _ (List.mem_append_right _ (List.mem_append_right _ (List.mem_append_right _ (List.mem_append_right _ (List.mem_append_right _ (List.mem_append_right _ (List.mem_append_right _ (List.mem_append_right _ (List.mem_append_right _ (List.mem_append_right _ (List.mem_append_right _ (List.mem_append_right _ (List.mem_append_right _ (List.mem_append_right _ (List.mem_append_right _ (List.mem_append_right _ (List.mem_append_right _ (List.mem_append_right _ (List.mem_append_right _ (List.mem_append_right _ (List.mem_append_right _ (List.mem_append_right _ (List.mem_append_right _ (List.mem_append_right _ (List.mem_append_right _ (List.mem_append_right _ (List.mem_append_left _ h))))))))))))))))))))))))))))))))))))
theorem wc_29 : ∀ w ∈ wsL_law_r29, w ∈ wsL_law := fun w h => List.mem_append_left _ (List.mem_append_left _ (List.mem_append_left _ (List.mem_append_left _ (List.mem_append_left _ (List.mem_append_left _ (List.mem_append_left _ (List.mem_append_left _ (List.mem_append_left _ (List.mem_append_right _ (List.mem_append_right _ (List.mem_append_right _ (List.mem_append_right _ (List.mem_append_right _ (List.mem_append_right _ (List.mem_append_right _ (List.mem_append_right _ (List.mem_append_right _ (List.mem_append_right _ (List.mem_append_right _ (List.mem_append_right _ (List.mem_append_right _ (List.mem_append_right _ (List.mem_append_right _ (List.mem_append_right _ (List.mem_append_right _ (List.mem_append_right _ (List.mem_append_right _ (List.mem_append_right _ (List.mem_append_right _ (List.mem_append_right _ (List.mem_append_right _ (List.mem_append_right _ (List.mem_append_right _ (List.mem_append_right _ (List.mem_append_right _ (List.mem_append_right _ (List.mem_append_left _ h)))))))))))))))))))))))))))))))))))))
theorem wc_30 : ∀ w ∈ wsL_law_r30, w ∈ wsL_law := fun w h => List.mem_append_left _ (List.mem_append_left _ (List.mem_append_left _ (List.mem_append_left _ (List.mem_append_left _ (List.mem_append_left _ (List.mem_append_left _ (List.mem_append_left _ (List.mem_append_left _ (List.mem_append_right _ (List.mem_append_right _ (List.mem_append_right _ (List.mem_append_right _ (List.mem_append_right _ (List.mem_append_right _ (List.mem_append_right _ (List.mem_append_right _ (List.mem_append_right _ (List.mem_append_right _ (List.mem_append_right _ (List.mem_append_right _ (List.mem_append_right _ (List.mem_append_right _ (List.mem_append_right _ (List.mem_append_right _ (List.mem_append_right _ (List.mem_append_right _ (List.mem_append_right _ (List.mem_append_right _ (List.mem_append_right _ (List.mem_append_right _ (List.mem_append_right _ (List.mem_append_right _ (List.mem_append_right _ (List.mem_append_right _ (List.mem_append_right _ (List.mem_append_right _ (List.mem_append_right _ (List.mem_append_left _ h))))))))))))))))))))))))))))))))))))))
theorem wc_31 : ∀ w ∈ wsL_law_r31, w ∈ wsL_law := fun w h => List.mem_append_left _ (List.mem_append_left _ (List.mem_append_left _ (List.mem_append_left _ (List.mem_append_left _ (List.mem_append_left _ (List.mem_append_left _ (List.mem_append_left _ (List.mem_append_left _ (List.mem_append_right _ (List.mem_append_right _ (List.mem_append_right _ (List.mem_append_right _ (List.mem_append_right _ (List.mem_append_right _ (List.mem_append_right _ (List.mem_append_right _ (List.mem_append_right _ (List.mem_append_right _ (List.mem_append_right _ (List.mem_append_right _ (List.mem_append_right _ (List.mem_append_right _ (List.mem_append_right _ (List.mem_append_right _ (List.mem_append_right _ (List.mem_append_right _ (List.mem_append_right _ (List.mem_append_right _ (List.mem_append_right _ (List.mem_append_right _ (List.mem_append_right _ (List.mem_append_right _ (List.mem_append_right _ (List.mem_append_right _ (List.mem_append_right _ (List.mem_append_right _ (List.mem_append_right _ (List.mem_append_right _ (List.mem_append_left _ h)))))))))))))))))))))))))))))))))))))))
theorem wc_32 : ∀ w ∈ wsL_law_r32, w ∈ wsL_law := fun w h => List.mem_append_left _ (List.mem_append_left _ (List.mem_append_left _ (List.mem_append_left _ (List.mem_append_left _ (List.mem_append_left _ (List.mem_append_left _ (List.mem_append_left _ (List.mem_append_left _ (List.mem_append_right _ (List.mem_append_right _ (List.mem_append_right _ (List.mem_append_right _ (List.mem_append_right _ (List.mem_append_right _ (List.mem_append_right _ (List.mem_append_right _ (List.mem_append_right _ (List.mem_append_right _ (List.mem_append_right _ (List.mem_append_right _ (List.mem_append_right _ (List.mem_append_right _ (List.mem_append_right _ (List.mem_append_right _ (List.mem_append_right _ (List.mem_append_right _ (List.mem_append_right _ (List.mem_append_right _ (List.mem_append_right _ (List.mem_append_right _ (List.mem_append_right _ (List.mem_append_right _ (List.mem_append_right _ (List.mem_append_right _ (List.mem_append_right _ (List.mem_append_right _ (List.mem_append_right _ (List.mem_append_right _ (List.mem_append_right _ (h))))))))))))))))))))))))))))))))))))))))
theorem wl_6 : ∀ w ∈ wsX60, w ∈ wsL_law := fun w h => List.mem_append_left _ (List.mem_append_left _ (List.mem_append_left _ (List.mem_append_left _ (List.mem_append_left _ (List.mem_append_left _ (List.mem_append_left _ (List.mem_append_left _ (List.mem_append_right _ h))))))))
theorem wl_7 : ∀ w ∈ wsX70, w ∈ wsL_law := fun w h => List.mem_append_left _ (List.mem_append_left _ (List.mem_append_left _ (List.mem_append_left _ (List.mem_append_left _ (List.mem_append_left _ (List.mem_append_left _ (List.mem_append_right _ h)))))))
theorem wl_4 : ∀ w ∈ wsX40, w ∈ wsL_law := fun w h => List.mem_append_left _ (List.mem_append_left _ (List.mem_append_left _ (List.mem_append_left _ (List.mem_append_left _ (List.mem_append_left _ (List.mem_append_right _ h))))))
theorem wl_2 : ∀ w ∈ wsX20, w ∈ wsL_law := fun w h => List.mem_append_left _ (List.mem_append_left _ (List.mem_append_left _ (List.mem_append_left _ (List.mem_append_left _ (List.mem_append_right _ h)))))
theorem wl_5 : ∀ w ∈ wsX50, w ∈ wsL_law := fun w h => List.mem_append_left _ (List.mem_append_left _ (List.mem_append_left _ (List.mem_append_left _ (List.mem_append_right _ h))))
theorem wl_3 : ∀ w ∈ wsX30, w ∈ wsL_law := fun w h => List.mem_append_left _ (List.mem_append_left _ (List.mem_append_left _ (List.mem_append_right _ h)))
theorem wl_1 : ∀ w ∈ wsX10, w ∈ wsL_law := fun w h => List.mem_append_left _ (List.mem_append_left _ (List.mem_append_right _ h))
theorem wl_0 : ∀ w ∈ wsX00, w ∈ wsL_law := fun w h => List.mem_append_left _ (List.mem_append_right _ h)
theorem wq_1_0 : Cond.classLink RL 7 RX6 ∈ wsL_law := wc_1 _ (List.mem_of_getElem? (i := 0) rfl)
theorem wq_1_1 : Cond.instantiable RX6 5 ∈ wsL_law := wc_1 _ (List.mem_of_getElem? (i := 1) rfl)
theorem wq_1_2 : Cond.initialized RX6 ∈ wsL_law := wc_1 _ (List.mem_of_getElem? (i := 2) rfl)
theorem wq_1_3 : Cond.classLink RL 10 RX7 ∈ wsL_law := wc_1 _ (List.mem_of_getElem? (i := 3) rfl)
theorem wq_1_4 : Cond.instantiable RX7 16 ∈ wsL_law := wc_1 _ (List.mem_of_getElem? (i := 4) rfl)
theorem wq_1_5 : Cond.initialized RX7 ∈ wsL_law := wc_1 _ (List.mem_of_getElem? (i := 5) rfl)
theorem wq_1_6 : Cond.constantLong RL 85 (4294967295) ∈ wsL_law := wc_1 _ (List.mem_of_getElem? (i := 6) rfl)
theorem wq_1_7 : Cond.methodLink RL 9 yX6_init ∈ wsL_law := wc_1 _ (List.mem_of_getElem? (i := 7) rfl)
theorem wq_1_8 : Cond.instanceMethod yX6_init ∈ wsL_law := wc_1 _ (List.mem_of_getElem? (i := 8) rfl)
theorem wq_1_9 : Cond.code yX6_init cX6_init 1 none ∈ wsL_law := wc_1 _ (List.mem_of_getElem? (i := 9) rfl)
theorem wq_1_10 : Cond.methodLink RX6 1 objectInit ∈ wsL_law := wc_1 _ (List.mem_of_getElem? (i := 10) rfl)
theorem wq_1_11 : Cond.instanceMethod objectInit ∈ wsL_law := wc_1 _ (List.mem_of_getElem? (i := 11) rfl)
theorem wq_1_12 : Cond.code objectInit ⟨#[0xb1]⟩ 1 none ∈ wsL_law := wc_1 _ (List.mem_of_getElem? (i := 12) rfl)
theorem wq_1_13 : Cond.classLink RX6 7 RX4 ∈ wsL_law := wc_1 _ (List.mem_of_getElem? (i := 13) rfl)
theorem wq_1_14 : Cond.instantiable RX4 6 ∈ wsL_law := wc_1 _ (List.mem_of_getElem? (i := 14) rfl)
theorem wq_1_15 : Cond.initialized RX4 ∈ wsL_law := wc_1 _ (List.mem_of_getElem? (i := 15) rfl)
theorem wq_1_16 : Cond.fieldLink RX6 10 "GaugeColumns" "now" "LGaugeColumns$Tester;" ∈ wsL_law := wc_1 _ (List.mem_of_getElem? (i := 16) rfl)
theorem wq_1_17 : Cond.classLink RX6 16 RX2 ∈ wsL_law := wc_1 _ (List.mem_of_getElem? (i := 17) rfl)
theorem wq_1_18 : Cond.instantiable RX2 3 ∈ wsL_law := wc_1 _ (List.mem_of_getElem? (i := 18) rfl)
theorem wq_1_19 : Cond.initialized RX2 ∈ wsL_law := wc_1 _ (List.mem_of_getElem? (i := 19) rfl)
theorem wq_1_20 : Cond.fieldLink RX6 19 "GaugeColumns" "history" "LGaugeColumns$History;" ∈ wsL_law := wc_1 _ (List.mem_of_getElem? (i := 20) rfl)
theorem wq_1_21 : Cond.fieldLink RX6 23 "GaugeColumns" "slots" "[LGaugeColumns$Tester;" ∈ wsL_law := wc_1 _ (List.mem_of_getElem? (i := 21) rfl)
theorem wq_1_22 : Cond.classLink RX6 27 RX5 ∈ wsL_law := wc_1 _ (List.mem_of_getElem? (i := 22) rfl)
theorem wq_1_23 : Cond.instantiable RX5 7 ∈ wsL_law := wc_1 _ (List.mem_of_getElem? (i := 23) rfl)
theorem wq_2_0 : Cond.initialized RX5 ∈ wsL_law := wc_2 _ (List.mem_of_getElem? (i := 0) rfl)
theorem wq_2_1 : Cond.fieldLink RX6 30 "GaugeColumns" "trial" "LGaugeColumns$Trial;" ∈ wsL_law := wc_2 _ (List.mem_of_getElem? (i := 1) rfl)
theorem wq_2_2 : Cond.classLink RX6 34 RX3 ∈ wsL_law := wc_2 _ (List.mem_of_getElem? (i := 2) rfl)
theorem wq_2_3 : Cond.instantiable RX3 5 ∈ wsL_law := wc_2 _ (List.mem_of_getElem? (i := 3) rfl)
theorem wq_2_4 : Cond.initialized RX3 ∈ wsL_law := wc_2 _ (List.mem_of_getElem? (i := 4) rfl)
theorem wq_2_5 : Cond.fieldLink RX6 37 "GaugeColumns" "pad" "LGaugeColumns$Pad;" ∈ wsL_law := wc_2 _ (List.mem_of_getElem? (i := 5) rfl)
theorem wq_2_6 : Cond.methodLink RX6 9 yX4_init ∈ wsL_law := wc_2 _ (List.mem_of_getElem? (i := 6) rfl)
theorem wq_2_7 : Cond.instanceMethod yX4_init ∈ wsL_law := wc_2 _ (List.mem_of_getElem? (i := 7) rfl)
theorem wq_2_8 : Cond.code yX4_init cX4_init 2 none ∈ wsL_law := wc_2 _ (List.mem_of_getElem? (i := 8) rfl)
theorem wq_2_9 : Cond.methodLink RX4 3 objectInit ∈ wsL_law := wc_2 _ (List.mem_of_getElem? (i := 9) rfl)
theorem wq_2_10 : Cond.methodLink RX4 13 ⟨"[I", "clone", "()Ljava/lang/Object;"⟩ ∈ wsL_law := wc_2 _ (List.mem_of_getElem? (i := 10) rfl)
theorem wq_2_11 : Cond.sameMethod "[I" "java/lang/Object" "clone" "()Ljava/lang/Object;" ∈ wsL_law := wc_2 _ (List.mem_of_getElem? (i := 11) rfl)
theorem wq_2_12 : Cond.native ⟨"java/lang/Object", "clone", "()Ljava/lang/Object;"⟩ ∈ wsL_law := wc_2 _ (List.mem_of_getElem? (i := 12) rfl)
theorem wq_2_13 : Cond.instanceMethod ⟨"java/lang/Object", "clone", "()Ljava/lang/Object;"⟩ ∈ wsL_law := wc_2 _ (List.mem_of_getElem? (i := 13) rfl)
theorem wq_2_14 : Cond.selects "[I" ⟨"[I", "clone", "()Ljava/lang/Object;"⟩ ⟨"java/lang/Object", "clone", "()Ljava/lang/Object;"⟩ ∈ wsL_law := wc_2 _ (List.mem_of_getElem? (i := 14) rfl)
theorem wq_2_15 : Cond.classLink RX4 14 "[I" ∈ wsL_law := wc_2 _ (List.mem_of_getElem? (i := 15) rfl)
theorem wq_2_16 : Cond.fieldLink RX4 18 "GaugeColumns$Tester" "settings" "[I" ∈ wsL_law := wc_2 _ (List.mem_of_getElem? (i := 16) rfl)
theorem wq_2_17 : Cond.arrayClass .int ∈ wsL_law := wc_2 _ (List.mem_of_getElem? (i := 17) rfl)
theorem wq_2_18 : Cond.fieldLink RX4 23 "GaugeColumns$Tester" "grams" "[I" ∈ wsL_law := wc_2 _ (List.mem_of_getElem? (i := 18) rfl)
theorem wq_2_19 : Cond.classLink RX4 26 RX1 ∈ wsL_law := wc_2 _ (List.mem_of_getElem? (i := 19) rfl)
theorem wq_2_20 : Cond.fieldLink RX4 28 "GaugeColumns$Tester" "gauges" "[LGaugeColumns$Gauge;" ∈ wsL_law := wc_2 _ (List.mem_of_getElem? (i := 20) rfl)
theorem wq_2_21 : Cond.instantiable RX1 5 ∈ wsL_law := wc_2 _ (List.mem_of_getElem? (i := 21) rfl)
theorem wq_2_22 : Cond.initialized RX1 ∈ wsL_law := wc_2 _ (List.mem_of_getElem? (i := 22) rfl)
theorem wq_2_23 : Cond.instanceMethod yX1_init ∈ wsL_law := wc_2 _ (List.mem_of_getElem? (i := 23) rfl)
theorem wq_3_0 : Cond.code yX1_init cX1_init 1 none ∈ wsL_law := wc_3 _ (List.mem_of_getElem? (i := 0) rfl)
theorem wq_3_1 : Cond.methodLink RX1 3 objectInit ∈ wsL_law := wc_3 _ (List.mem_of_getElem? (i := 1) rfl)
theorem wq_3_2 : Cond.methodLink RX6 18 yX2_init ∈ wsL_law := wc_3 _ (List.mem_of_getElem? (i := 2) rfl)
theorem wq_3_3 : Cond.instanceMethod yX2_init ∈ wsL_law := wc_3 _ (List.mem_of_getElem? (i := 3) rfl)
theorem wq_3_4 : Cond.code yX2_init cX2_init 2 none ∈ wsL_law := wc_3 _ (List.mem_of_getElem? (i := 4) rfl)
theorem wq_3_5 : Cond.methodLink RX2 3 objectInit ∈ wsL_law := wc_3 _ (List.mem_of_getElem? (i := 5) rfl)
theorem wq_3_6 : Cond.classLink RX2 9 RX4 ∈ wsL_law := wc_3 _ (List.mem_of_getElem? (i := 6) rfl)
theorem wq_3_7 : Cond.fieldLink RX2 11 "GaugeColumns$History" "states" "[LGaugeColumns$Tester;" ∈ wsL_law := wc_3 _ (List.mem_of_getElem? (i := 7) rfl)
theorem wq_3_8 : Cond.methodLink RX2 17 yX4_init ∈ wsL_law := wc_3 _ (List.mem_of_getElem? (i := 8) rfl)
theorem wq_3_9 : Cond.instanceMethod yX5_init ∈ wsL_law := wc_3 _ (List.mem_of_getElem? (i := 9) rfl)
theorem wq_3_10 : Cond.code yX5_init cX5_init 1 none ∈ wsL_law := wc_3 _ (List.mem_of_getElem? (i := 10) rfl)
theorem wq_3_11 : Cond.methodLink RX5 3 objectInit ∈ wsL_law := wc_3 _ (List.mem_of_getElem? (i := 11) rfl)
theorem wq_3_12 : Cond.fieldLink RX5 9 "GaugeColumns$Trial" "readings" "[I" ∈ wsL_law := wc_3 _ (List.mem_of_getElem? (i := 12) rfl)
theorem wq_3_13 : Cond.classLink RX5 15 RX1 ∈ wsL_law := wc_3 _ (List.mem_of_getElem? (i := 13) rfl)
theorem wq_3_14 : Cond.fieldLink RX5 18 "GaugeColumns$Trial" "gauge" "LGaugeColumns$Gauge;" ∈ wsL_law := wc_3 _ (List.mem_of_getElem? (i := 14) rfl)
theorem wq_3_15 : Cond.fieldLink RX5 22 "GaugeColumns$Trial" "sorted" "[I" ∈ wsL_law := wc_3 _ (List.mem_of_getElem? (i := 15) rfl)
theorem wq_3_16 : Cond.fieldLink RX5 25 "GaugeColumns$Trial" "pressures" "[I" ∈ wsL_law := wc_3 _ (List.mem_of_getElem? (i := 16) rfl)
theorem wq_3_17 : Cond.instanceMethod yX3_init ∈ wsL_law := wc_3 _ (List.mem_of_getElem? (i := 17) rfl)
theorem wq_3_18 : Cond.code yX3_init cX3_init 1 none ∈ wsL_law := wc_3 _ (List.mem_of_getElem? (i := 18) rfl)
theorem wq_3_19 : Cond.methodLink RX3 3 objectInit ∈ wsL_law := wc_3 _ (List.mem_of_getElem? (i := 19) rfl)
theorem wq_3_20 : Cond.fieldLink RX3 9 "GaugeColumns$Pad" "numbers" "[I" ∈ wsL_law := wc_3 _ (List.mem_of_getElem? (i := 20) rfl)
theorem wq_3_21 : Cond.arrayClass .char ∈ wsL_law := wc_3 _ (List.mem_of_getElem? (i := 21) rfl)
theorem wq_3_22 : Cond.fieldLink RX3 15 "GaugeColumns$Pad" "signs" "[C" ∈ wsL_law := wc_3 _ (List.mem_of_getElem? (i := 22) rfl)
theorem wq_3_23 : Cond.methodLink RL 12 yX7_init ∈ wsL_law := wc_3 _ (List.mem_of_getElem? (i := 23) rfl)
theorem wq_4_0 : Cond.instanceMethod yX7_init ∈ wsL_law := wc_4 _ (List.mem_of_getElem? (i := 0) rfl)
theorem wq_4_1 : Cond.code yX7_init cX7_init 1 none ∈ wsL_law := wc_4 _ (List.mem_of_getElem? (i := 1) rfl)
theorem wq_4_2 : Cond.methodLink RX7 1 objectInit ∈ wsL_law := wc_4 _ (List.mem_of_getElem? (i := 2) rfl)
theorem wq_4_3 : Cond.fieldLink RX7 7 "GaugeColumnsModel" "state" "[I" ∈ wsL_law := wc_4 _ (List.mem_of_getElem? (i := 3) rfl)
theorem wq_4_4 : Cond.fieldLink RX7 13 "GaugeColumnsModel" "history" "[I" ∈ wsL_law := wc_4 _ (List.mem_of_getElem? (i := 4) rfl)
theorem wq_4_5 : Cond.fieldLink RX7 16 "GaugeColumnsModel" "slots" "[I" ∈ wsL_law := wc_4 _ (List.mem_of_getElem? (i := 5) rfl)
theorem wq_4_6 : Cond.fieldLink RX7 19 "GaugeColumnsModel" "isSaved" "[I" ∈ wsL_law := wc_4 _ (List.mem_of_getElem? (i := 6) rfl)
theorem wq_4_7 : Cond.fieldLink RX7 22 "GaugeColumnsModel" "pad" "[I" ∈ wsL_law := wc_4 _ (List.mem_of_getElem? (i := 7) rfl)
theorem wq_4_8 : Cond.fieldLink RX7 25 "GaugeColumnsModel" "order" "[I" ∈ wsL_law := wc_4 _ (List.mem_of_getElem? (i := 8) rfl)
theorem wq_4_9 : Cond.fieldLink RX7 28 "GaugeColumnsModel" "readings" "[I" ∈ wsL_law := wc_4 _ (List.mem_of_getElem? (i := 9) rfl)
theorem wq_4_10 : Cond.methodLink RL 13 yX6_set ∈ wsL_law := wc_4 _ (List.mem_of_getElem? (i := 10) rfl)
theorem wq_4_11 : Cond.instanceMethod yX6_set ∈ wsL_law := wc_4 _ (List.mem_of_getElem? (i := 11) rfl)
theorem wq_4_12 : Cond.selects RX6 yX6_set yX6_set ∈ wsL_law := wc_4 _ (List.mem_of_getElem? (i := 12) rfl)
theorem wq_4_13 : Cond.code yX6_set cX6_set 3 (some .int) ∈ wsL_law := wc_4 _ (List.mem_of_getElem? (i := 13) rfl)
theorem wq_4_14 : Cond.methodLink RX6 41 yX2_remember ∈ wsL_law := wc_4 _ (List.mem_of_getElem? (i := 14) rfl)
theorem wq_4_15 : Cond.instanceMethod yX2_remember ∈ wsL_law := wc_4 _ (List.mem_of_getElem? (i := 15) rfl)
theorem wq_4_16 : Cond.selects RX2 yX2_remember yX2_remember ∈ wsL_law := wc_4 _ (List.mem_of_getElem? (i := 16) rfl)
theorem wq_4_17 : Cond.code yX2_remember cX2_remember 2 none ∈ wsL_law := wc_4 _ (List.mem_of_getElem? (i := 17) rfl)
theorem wq_4_18 : Cond.fieldLink RX2 18 "GaugeColumns$History" "next" "I" ∈ wsL_law := wc_4 _ (List.mem_of_getElem? (i := 18) rfl)
theorem wq_4_19 : Cond.methodLink RX2 22 yX4_copyFrom ∈ wsL_law := wc_4 _ (List.mem_of_getElem? (i := 19) rfl)
theorem wq_4_20 : Cond.instanceMethod yX4_copyFrom ∈ wsL_law := wc_4 _ (List.mem_of_getElem? (i := 20) rfl)
theorem wq_4_21 : Cond.selects RX4 yX4_copyFrom yX4_copyFrom ∈ wsL_law := wc_4 _ (List.mem_of_getElem? (i := 21) rfl)
theorem wq_4_22 : Cond.code yX4_copyFrom cX4_copyFrom 3 none ∈ wsL_law := wc_4 _ (List.mem_of_getElem? (i := 22) rfl)
theorem wq_4_23 : Cond.methodLink RX4 33 arraycopyName ∈ wsL_law := wc_4 _ (List.mem_of_getElem? (i := 23) rfl)
theorem wq_5_0 : Cond.native arraycopyName ∈ wsL_law := wc_5 _ (List.mem_of_getElem? (i := 0) rfl)
theorem wq_5_1 : Cond.static arraycopyName ∈ wsL_law := wc_5 _ (List.mem_of_getElem? (i := 1) rfl)
theorem wq_5_2 : Cond.initialized "java/lang/System" ∈ wsL_law := wc_5 _ (List.mem_of_getElem? (i := 2) rfl)
theorem wq_5_3 : Cond.fieldLink RX4 43 "GaugeColumns$Tester" "ringCount" "I" ∈ wsL_law := wc_5 _ (List.mem_of_getElem? (i := 3) rfl)
theorem wq_5_4 : Cond.fieldLink RX4 47 "GaugeColumns$Tester" "column" "I" ∈ wsL_law := wc_5 _ (List.mem_of_getElem? (i := 4) rfl)
theorem wq_5_5 : Cond.fieldLink RX4 50 "GaugeColumns$Tester" "gaugeCount" "I" ∈ wsL_law := wc_5 _ (List.mem_of_getElem? (i := 5) rfl)
theorem wq_5_6 : Cond.methodLink RX4 39 yX1_copyFrom ∈ wsL_law := wc_5 _ (List.mem_of_getElem? (i := 6) rfl)
theorem wq_5_7 : Cond.instanceMethod yX1_copyFrom ∈ wsL_law := wc_5 _ (List.mem_of_getElem? (i := 7) rfl)
theorem wq_5_8 : Cond.selects RX1 yX1_copyFrom yX1_copyFrom ∈ wsL_law := wc_5 _ (List.mem_of_getElem? (i := 8) rfl)
theorem wq_5_9 : Cond.code yX1_copyFrom cX1_copyFrom 2 none ∈ wsL_law := wc_5 _ (List.mem_of_getElem? (i := 9) rfl)
theorem wq_5_10 : Cond.fieldLink RX1 9 "GaugeColumns$Gauge" "error" "I" ∈ wsL_law := wc_5 _ (List.mem_of_getElem? (i := 10) rfl)
theorem wq_5_11 : Cond.fieldLink RX1 15 "GaugeColumns$Gauge" "play" "I" ∈ wsL_law := wc_5 _ (List.mem_of_getElem? (i := 11) rfl)
theorem wq_5_12 : Cond.fieldLink RX1 18 "GaugeColumns$Gauge" "step" "I" ∈ wsL_law := wc_5 _ (List.mem_of_getElem? (i := 12) rfl)
theorem wq_5_13 : Cond.fieldLink RX1 21 "GaugeColumns$Gauge" "hand" "I" ∈ wsL_law := wc_5 _ (List.mem_of_getElem? (i := 13) rfl)
theorem wq_5_14 : Cond.fieldLink RX1 24 "GaugeColumns$Gauge" "certificate" "LGaugeColumns$Certificate;" ∈ wsL_law := wc_5 _ (List.mem_of_getElem? (i := 14) rfl)
theorem wq_5_15 : Cond.methodLink RX6 45 yX4_change ∈ wsL_law := wc_5 _ (List.mem_of_getElem? (i := 15) rfl)
theorem wq_5_16 : Cond.instanceMethod yX4_change ∈ wsL_law := wc_5 _ (List.mem_of_getElem? (i := 16) rfl)
theorem wq_5_17 : Cond.selects RX4 yX4_change yX4_change ∈ wsL_law := wc_5 _ (List.mem_of_getElem? (i := 17) rfl)
theorem wq_5_18 : Cond.code yX4_change cX4_change 4 (some .int) ∈ wsL_law := wc_5 _ (List.mem_of_getElem? (i := 18) rfl)
theorem wq_5_19 : Cond.methodLink RX4 59 yX4_voidCertificates ∈ wsL_law := wc_5 _ (List.mem_of_getElem? (i := 19) rfl)
theorem wq_5_20 : Cond.instanceMethod yX4_voidCertificates ∈ wsL_law := wc_5 _ (List.mem_of_getElem? (i := 20) rfl)
theorem wq_5_21 : Cond.selects RX4 yX4_voidCertificates yX4_voidCertificates ∈ wsL_law := wc_5 _ (List.mem_of_getElem? (i := 21) rfl)
theorem wq_5_22 : Cond.code yX4_voidCertificates cX4_voidCertificates 2 none ∈ wsL_law := wc_5 _ (List.mem_of_getElem? (i := 22) rfl)
theorem wq_5_23 : Cond.fieldLink RX4 91 "GaugeColumns$Gauge" "certificate" "LGaugeColumns$Certificate;" ∈ wsL_law := wc_5 _ (List.mem_of_getElem? (i := 23) rfl)
theorem wq_6_0 : Cond.methodLink RX4 62 yX4_moveHands ∈ wsL_law := wc_6 _ (List.mem_of_getElem? (i := 0) rfl)
theorem wq_6_1 : Cond.instanceMethod yX4_moveHands ∈ wsL_law := wc_6 _ (List.mem_of_getElem? (i := 1) rfl)
theorem wq_6_2 : Cond.selects RX4 yX4_moveHands yX4_moveHands ∈ wsL_law := wc_6 _ (List.mem_of_getElem? (i := 2) rfl)
theorem wq_6_3 : Cond.code yX4_moveHands cX4_moveHands 3 (some .int) ∈ wsL_law := wc_6 _ (List.mem_of_getElem? (i := 3) rfl)
theorem wq_6_4 : Cond.methodLink RX4 77 yX4_columnPressure ∈ wsL_law := wc_6 _ (List.mem_of_getElem? (i := 4) rfl)
theorem wq_6_5 : Cond.instanceMethod yX4_columnPressure ∈ wsL_law := wc_6 _ (List.mem_of_getElem? (i := 5) rfl)
theorem wq_6_6 : Cond.selects RX4 yX4_columnPressure yX4_columnPressure ∈ wsL_law := wc_6 _ (List.mem_of_getElem? (i := 6) rfl)
theorem wq_6_7 : Cond.code yX4_columnPressure cX4_columnPressure 1 (some .int) ∈ wsL_law := wc_6 _ (List.mem_of_getElem? (i := 7) rfl)
theorem wq_6_8 : Cond.methodLink RX4 120 yX4_massOf ∈ wsL_law := wc_6 _ (List.mem_of_getElem? (i := 8) rfl)
theorem wq_6_9 : Cond.instanceMethod yX4_massOf ∈ wsL_law := wc_6 _ (List.mem_of_getElem? (i := 9) rfl)
theorem wq_6_10 : Cond.selects RX4 yX4_massOf yX4_massOf ∈ wsL_law := wc_6 _ (List.mem_of_getElem? (i := 10) rfl)
theorem wq_6_11 : Cond.code yX4_massOf cX4_massOf 4 (some .int) ∈ wsL_law := wc_6 _ (List.mem_of_getElem? (i := 11) rfl)
theorem wq_6_12 : Cond.methodLink RX4 124 yX4_pressureOf ∈ wsL_law := wc_6 _ (List.mem_of_getElem? (i := 12) rfl)
theorem wq_6_13 : Cond.instanceMethod yX4_pressureOf ∈ wsL_law := wc_6 _ (List.mem_of_getElem? (i := 13) rfl)
theorem wq_6_14 : Cond.selects RX4 yX4_pressureOf yX4_pressureOf ∈ wsL_law := wc_6 _ (List.mem_of_getElem? (i := 14) rfl)
theorem wq_6_15 : Cond.code yX4_pressureOf cX4_pressureOf 3 (some .int) ∈ wsL_law := wc_6 _ (List.mem_of_getElem? (i := 15) rfl)
theorem wq_6_16 : Cond.static yX6_weightOf ∈ wsL_law := wc_6 _ (List.mem_of_getElem? (i := 16) rfl)
theorem wq_6_17 : Cond.code yX6_weightOf cX6_weightOf 2 (some .int) ∈ wsL_law := wc_6 _ (List.mem_of_getElem? (i := 17) rfl)
theorem wq_6_18 : Cond.constant RX6 203 (100000) ∈ wsL_law := wc_6 _ (List.mem_of_getElem? (i := 18) rfl)
theorem wq_6_19 : Cond.methodLink RX6 204 yX6_dividedRounded ∈ wsL_law := wc_6 _ (List.mem_of_getElem? (i := 19) rfl)
theorem wq_6_20 : Cond.static yX6_dividedRounded ∈ wsL_law := wc_6 _ (List.mem_of_getElem? (i := 20) rfl)
theorem wq_6_21 : Cond.code yX6_dividedRounded cX6_dividedRounded 2 (some .int) ∈ wsL_law := wc_6 _ (List.mem_of_getElem? (i := 21) rfl)
theorem wq_6_22 : Cond.static yX6_dividedDown ∈ wsL_law := wc_6 _ (List.mem_of_getElem? (i := 22) rfl)
theorem wq_6_23 : Cond.code yX6_dividedDown cX6_dividedDown 2 (some .int) ∈ wsL_law := wc_6 _ (List.mem_of_getElem? (i := 23) rfl)
theorem wq_7_0 : Cond.methodLink RX4 80 yX1_follow ∈ wsL_law := wc_7 _ (List.mem_of_getElem? (i := 0) rfl)
theorem wq_7_1 : Cond.instanceMethod yX1_follow ∈ wsL_law := wc_7 _ (List.mem_of_getElem? (i := 1) rfl)
theorem wq_7_2 : Cond.selects RX1 yX1_follow yX1_follow ∈ wsL_law := wc_7 _ (List.mem_of_getElem? (i := 2) rfl)
theorem wq_7_3 : Cond.code yX1_follow cX1_follow 4 none ∈ wsL_law := wc_7 _ (List.mem_of_getElem? (i := 3) rfl)
theorem wq_7_4 : Cond.methodLink RX1 28 Lib.Math.abs.name ∈ wsL_law := wc_7 _ (List.mem_of_getElem? (i := 4) rfl)
theorem wq_7_5 : Cond.static Lib.Math.abs.name ∈ wsL_law := wc_7 _ (List.mem_of_getElem? (i := 5) rfl)
theorem wq_7_6 : Cond.initialized "java/lang/Math" ∈ wsL_law := wc_7 _ (List.mem_of_getElem? (i := 6) rfl)
theorem wq_7_7 : Cond.code Lib.Math.abs.name Lib.Math.abs.code 1 (some .int) ∈ wsL_law := wc_7 _ (List.mem_of_getElem? (i := 7) rfl)
theorem wq_7_8 : Cond.methodLink RX6 49 yX2_settle ∈ wsL_law := wc_7 _ (List.mem_of_getElem? (i := 8) rfl)
theorem wq_7_9 : Cond.instanceMethod yX2_settle ∈ wsL_law := wc_7 _ (List.mem_of_getElem? (i := 9) rfl)
theorem wq_7_10 : Cond.selects RX2 yX2_settle yX2_settle ∈ wsL_law := wc_7 _ (List.mem_of_getElem? (i := 10) rfl)
theorem wq_7_11 : Cond.code yX2_settle cX2_settle 2 (some .int) ∈ wsL_law := wc_7 _ (List.mem_of_getElem? (i := 11) rfl)
theorem wq_7_12 : Cond.fieldLink RX2 26 "GaugeColumns$History" "kept" "I" ∈ wsL_law := wc_7 _ (List.mem_of_getElem? (i := 12) rfl)
theorem wq_7_13 : Cond.methodLink RX2 29 Lib.Math.min.name ∈ wsL_law := wc_7 _ (List.mem_of_getElem? (i := 13) rfl)
theorem wq_7_14 : Cond.static Lib.Math.min.name ∈ wsL_law := wc_7 _ (List.mem_of_getElem? (i := 14) rfl)
theorem wq_7_15 : Cond.code Lib.Math.min.name Lib.Math.min.code 2 (some .int) ∈ wsL_law := wc_7 _ (List.mem_of_getElem? (i := 15) rfl)
theorem wq_7_16 : Cond.methodLink RL 17 yX7_set ∈ wsL_law := wc_7 _ (List.mem_of_getElem? (i := 16) rfl)
theorem wq_7_17 : Cond.instanceMethod yX7_set ∈ wsL_law := wc_7 _ (List.mem_of_getElem? (i := 17) rfl)
theorem wq_7_18 : Cond.selects RX7 yX7_set yX7_set ∈ wsL_law := wc_7 _ (List.mem_of_getElem? (i := 18) rfl)
theorem wq_7_19 : Cond.code yX7_set cX7_set 3 (some .int) ∈ wsL_law := wc_7 _ (List.mem_of_getElem? (i := 19) rfl)
theorem wq_7_20 : Cond.methodLink RX7 103 yX7_isValue ∈ wsL_law := wc_7 _ (List.mem_of_getElem? (i := 20) rfl)
theorem wq_7_21 : Cond.static yX7_isValue ∈ wsL_law := wc_7 _ (List.mem_of_getElem? (i := 21) rfl)
theorem wq_7_22 : Cond.code yX7_isValue cX7_isValue 2 (some .boolean) ∈ wsL_law := wc_7 _ (List.mem_of_getElem? (i := 22) rfl)
theorem wq_7_23 : Cond.methodLink RX7 39 yX7_within ∈ wsL_law := wc_7 _ (List.mem_of_getElem? (i := 23) rfl)
theorem wq_8_0 : Cond.static yX7_within ∈ wsL_law := wc_8 _ (List.mem_of_getElem? (i := 0) rfl)
theorem wq_8_1 : Cond.code yX7_within cX7_within 3 (some .boolean) ∈ wsL_law := wc_8 _ (List.mem_of_getElem? (i := 1) rfl)
theorem wq_8_2 : Cond.methodLink RX7 107 yX7_record ∈ wsL_law := wc_8 _ (List.mem_of_getElem? (i := 2) rfl)
theorem wq_8_3 : Cond.instanceMethod yX7_record ∈ wsL_law := wc_8 _ (List.mem_of_getElem? (i := 3) rfl)
theorem wq_8_4 : Cond.selects RX7 yX7_record yX7_record ∈ wsL_law := wc_8 _ (List.mem_of_getElem? (i := 4) rfl)
theorem wq_8_5 : Cond.code yX7_record cX7_record 2 none ∈ wsL_law := wc_8 _ (List.mem_of_getElem? (i := 5) rfl)
theorem wq_8_6 : Cond.fieldLink RX7 31 "GaugeColumnsModel" "recorded" "I" ∈ wsL_law := wc_8 _ (List.mem_of_getElem? (i := 6) rfl)
theorem wq_8_7 : Cond.methodLink RX7 35 yX7_moves ∈ wsL_law := wc_8 _ (List.mem_of_getElem? (i := 7) rfl)
theorem wq_8_8 : Cond.static yX7_moves ∈ wsL_law := wc_8 _ (List.mem_of_getElem? (i := 8) rfl)
theorem wq_8_9 : Cond.code yX7_moves cX7_moves 5 none ∈ wsL_law := wc_8 _ (List.mem_of_getElem? (i := 9) rfl)
theorem wq_8_10 : Cond.methodLink RX7 110 yX7_sets ∈ wsL_law := wc_8 _ (List.mem_of_getElem? (i := 10) rfl)
theorem wq_8_11 : Cond.instanceMethod yX7_sets ∈ wsL_law := wc_8 _ (List.mem_of_getElem? (i := 11) rfl)
theorem wq_8_12 : Cond.selects RX7 yX7_sets yX7_sets ∈ wsL_law := wc_8 _ (List.mem_of_getElem? (i := 12) rfl)
theorem wq_8_13 : Cond.code yX7_sets cX7_sets 4 (some .int) ∈ wsL_law := wc_8 _ (List.mem_of_getElem? (i := 13) rfl)
theorem wq_8_14 : Cond.methodLink RX7 97 yX7_voidsAll ∈ wsL_law := wc_8 _ (List.mem_of_getElem? (i := 14) rfl)
theorem wq_8_15 : Cond.instanceMethod yX7_voidsAll ∈ wsL_law := wc_8 _ (List.mem_of_getElem? (i := 15) rfl)
theorem wq_8_16 : Cond.selects RX7 yX7_voidsAll yX7_voidsAll ∈ wsL_law := wc_8 _ (List.mem_of_getElem? (i := 16) rfl)
theorem wq_8_17 : Cond.code yX7_voidsAll cX7_voidsAll 2 none ∈ wsL_law := wc_8 _ (List.mem_of_getElem? (i := 17) rfl)
theorem wq_8_18 : Cond.methodLink RX7 82 yX7_voids ∈ wsL_law := wc_8 _ (List.mem_of_getElem? (i := 18) rfl)
theorem wq_8_19 : Cond.instanceMethod yX7_voids ∈ wsL_law := wc_8 _ (List.mem_of_getElem? (i := 19) rfl)
theorem wq_8_20 : Cond.selects RX7 yX7_voids yX7_voids ∈ wsL_law := wc_8 _ (List.mem_of_getElem? (i := 20) rfl)
theorem wq_8_21 : Cond.code yX7_voids cX7_voids 3 none ∈ wsL_law := wc_8 _ (List.mem_of_getElem? (i := 21) rfl)
theorem wq_8_22 : Cond.methodLink RX7 74 yX7_setPart ∈ wsL_law := wc_8 _ (List.mem_of_getElem? (i := 22) rfl)
theorem wq_8_23 : Cond.instanceMethod yX7_setPart ∈ wsL_law := wc_8 _ (List.mem_of_getElem? (i := 23) rfl)
theorem wq_9_0 : Cond.selects RX7 yX7_setPart yX7_setPart ∈ wsL_law := wc_9 _ (List.mem_of_getElem? (i := 0) rfl)
theorem wq_9_1 : Cond.code yX7_setPart cX7_setPart 4 none ∈ wsL_law := wc_9 _ (List.mem_of_getElem? (i := 1) rfl)
theorem wq_9_2 : Cond.methodLink RX7 100 yX7_handsGo ∈ wsL_law := wc_9 _ (List.mem_of_getElem? (i := 2) rfl)
theorem wq_9_3 : Cond.instanceMethod yX7_handsGo ∈ wsL_law := wc_9 _ (List.mem_of_getElem? (i := 3) rfl)
theorem wq_9_4 : Cond.selects RX7 yX7_handsGo yX7_handsGo ∈ wsL_law := wc_9 _ (List.mem_of_getElem? (i := 4) rfl)
theorem wq_9_5 : Cond.code yX7_handsGo cX7_handsGo 2 none ∈ wsL_law := wc_9 _ (List.mem_of_getElem? (i := 5) rfl)
theorem wq_9_6 : Cond.methodLink RX7 78 yX7_handGoes ∈ wsL_law := wc_9 _ (List.mem_of_getElem? (i := 6) rfl)
theorem wq_9_7 : Cond.instanceMethod yX7_handGoes ∈ wsL_law := wc_9 _ (List.mem_of_getElem? (i := 7) rfl)
theorem wq_9_8 : Cond.selects RX7 yX7_handGoes yX7_handGoes ∈ wsL_law := wc_9 _ (List.mem_of_getElem? (i := 8) rfl)
theorem wq_9_9 : Cond.code yX7_handGoes cX7_handGoes 2 none ∈ wsL_law := wc_9 _ (List.mem_of_getElem? (i := 9) rfl)
theorem wq_9_10 : Cond.methodLink RX7 64 yX7_part ∈ wsL_law := wc_9 _ (List.mem_of_getElem? (i := 10) rfl)
theorem wq_9_11 : Cond.instanceMethod yX7_part ∈ wsL_law := wc_9 _ (List.mem_of_getElem? (i := 11) rfl)
theorem wq_9_12 : Cond.selects RX7 yX7_part yX7_part ∈ wsL_law := wc_9 _ (List.mem_of_getElem? (i := 12) rfl)
theorem wq_9_13 : Cond.code yX7_part cX7_part 3 (some .int) ∈ wsL_law := wc_9 _ (List.mem_of_getElem? (i := 13) rfl)
theorem wq_9_14 : Cond.methodLink RX7 67 yX7_pressureOf ∈ wsL_law := wc_9 _ (List.mem_of_getElem? (i := 14) rfl)
theorem wq_9_15 : Cond.instanceMethod yX7_pressureOf ∈ wsL_law := wc_9 _ (List.mem_of_getElem? (i := 15) rfl)
theorem wq_9_16 : Cond.selects RX7 yX7_pressureOf yX7_pressureOf ∈ wsL_law := wc_9 _ (List.mem_of_getElem? (i := 16) rfl)
theorem wq_9_17 : Cond.code yX7_pressureOf cX7_pressureOf 2 (some .int) ∈ wsL_law := wc_9 _ (List.mem_of_getElem? (i := 17) rfl)
theorem wq_9_18 : Cond.methodLink RX7 51 yX7_massOf ∈ wsL_law := wc_9 _ (List.mem_of_getElem? (i := 18) rfl)
theorem wq_9_19 : Cond.instanceMethod yX7_massOf ∈ wsL_law := wc_9 _ (List.mem_of_getElem? (i := 19) rfl)
theorem wq_9_20 : Cond.selects RX7 yX7_massOf yX7_massOf ∈ wsL_law := wc_9 _ (List.mem_of_getElem? (i := 20) rfl)
theorem wq_9_21 : Cond.code yX7_massOf cX7_massOf 4 (some .int) ∈ wsL_law := wc_9 _ (List.mem_of_getElem? (i := 21) rfl)
theorem wq_9_22 : Cond.methodLink RX7 55 yX7_pressureBy ∈ wsL_law := wc_9 _ (List.mem_of_getElem? (i := 22) rfl)
theorem wq_9_23 : Cond.instanceMethod yX7_pressureBy ∈ wsL_law := wc_9 _ (List.mem_of_getElem? (i := 23) rfl)
theorem wq_10_0 : Cond.selects RX7 yX7_pressureBy yX7_pressureBy ∈ wsL_law := wc_10 _ (List.mem_of_getElem? (i := 0) rfl)
theorem wq_10_1 : Cond.code yX7_pressureBy cX7_pressureBy 3 (some .int) ∈ wsL_law := wc_10 _ (List.mem_of_getElem? (i := 1) rfl)
theorem wq_10_2 : Cond.methodLink RX7 48 yX7_weightOf ∈ wsL_law := wc_10 _ (List.mem_of_getElem? (i := 2) rfl)
theorem wq_10_3 : Cond.instanceMethod yX7_weightOf ∈ wsL_law := wc_10 _ (List.mem_of_getElem? (i := 3) rfl)
theorem wq_10_4 : Cond.selects RX7 yX7_weightOf yX7_weightOf ∈ wsL_law := wc_10 _ (List.mem_of_getElem? (i := 4) rfl)
theorem wq_10_5 : Cond.code yX7_weightOf cX7_weightOf 3 (some .int) ∈ wsL_law := wc_10 _ (List.mem_of_getElem? (i := 5) rfl)
theorem wq_10_6 : Cond.constant RX7 43 (100000) ∈ wsL_law := wc_10 _ (List.mem_of_getElem? (i := 6) rfl)
theorem wq_10_7 : Cond.methodLink RX7 44 yX7_rounded ∈ wsL_law := wc_10 _ (List.mem_of_getElem? (i := 7) rfl)
theorem wq_10_8 : Cond.static yX7_rounded ∈ wsL_law := wc_10 _ (List.mem_of_getElem? (i := 8) rfl)
theorem wq_10_9 : Cond.code yX7_rounded cX7_rounded 2 (some .int) ∈ wsL_law := wc_10 _ (List.mem_of_getElem? (i := 9) rfl)
theorem wq_10_10 : Cond.methodLink RX7 70 yX7_goesTo ∈ wsL_law := wc_10 _ (List.mem_of_getElem? (i := 10) rfl)
theorem wq_10_11 : Cond.static yX7_goesTo ∈ wsL_law := wc_10 _ (List.mem_of_getElem? (i := 11) rfl)
theorem wq_10_12 : Cond.code yX7_goesTo cX7_goesTo 5 (some .int) ∈ wsL_law := wc_10 _ (List.mem_of_getElem? (i := 12) rfl)
theorem wq_10_13 : Cond.methodLink RX7 61 yX7_truth ∈ wsL_law := wc_10 _ (List.mem_of_getElem? (i := 13) rfl)
theorem wq_10_14 : Cond.static yX7_truth ∈ wsL_law := wc_10 _ (List.mem_of_getElem? (i := 14) rfl)
theorem wq_10_15 : Cond.code yX7_truth cX7_truth 3 (some .int) ∈ wsL_law := wc_10 _ (List.mem_of_getElem? (i := 15) rfl)
theorem wq_10_16 : Cond.methodLink RX7 58 yX7_size ∈ wsL_law := wc_10 _ (List.mem_of_getElem? (i := 16) rfl)
theorem wq_10_17 : Cond.static yX7_size ∈ wsL_law := wc_10 _ (List.mem_of_getElem? (i := 17) rfl)
theorem wq_10_18 : Cond.code yX7_size cX7_size 1 (some .int) ∈ wsL_law := wc_10 _ (List.mem_of_getElem? (i := 18) rfl)
theorem wq_10_19 : Cond.methodLink RL 18 yX6_ring ∈ wsL_law := wc_10 _ (List.mem_of_getElem? (i := 19) rfl)
theorem wq_10_20 : Cond.instanceMethod yX6_ring ∈ wsL_law := wc_10 _ (List.mem_of_getElem? (i := 20) rfl)
theorem wq_10_21 : Cond.selects RX6 yX6_ring yX6_ring ∈ wsL_law := wc_10 _ (List.mem_of_getElem? (i := 21) rfl)
theorem wq_10_22 : Cond.code yX6_ring cX6_ring 2 (some .int) ∈ wsL_law := wc_10 _ (List.mem_of_getElem? (i := 22) rfl)
theorem wq_10_23 : Cond.methodLink RX6 53 yX4_addRing ∈ wsL_law := wc_10 _ (List.mem_of_getElem? (i := 23) rfl)
theorem wq_11_0 : Cond.instanceMethod yX4_addRing ∈ wsL_law := wc_11 _ (List.mem_of_getElem? (i := 0) rfl)
theorem wq_11_1 : Cond.selects RX4 yX4_addRing yX4_addRing ∈ wsL_law := wc_11 _ (List.mem_of_getElem? (i := 1) rfl)
theorem wq_11_2 : Cond.code yX4_addRing cX4_addRing 2 (some .int) ∈ wsL_law := wc_11 _ (List.mem_of_getElem? (i := 2) rfl)
theorem wq_11_3 : Cond.methodLink RL 22 yX7_ring ∈ wsL_law := wc_11 _ (List.mem_of_getElem? (i := 3) rfl)
theorem wq_11_4 : Cond.instanceMethod yX7_ring ∈ wsL_law := wc_11 _ (List.mem_of_getElem? (i := 4) rfl)
theorem wq_11_5 : Cond.selects RX7 yX7_ring yX7_ring ∈ wsL_law := wc_11 _ (List.mem_of_getElem? (i := 5) rfl)
theorem wq_11_6 : Cond.code yX7_ring cX7_ring 3 (some .int) ∈ wsL_law := wc_11 _ (List.mem_of_getElem? (i := 6) rfl)
theorem wq_11_7 : Cond.methodLink RX7 113 yX7_whyNoRing ∈ wsL_law := wc_11 _ (List.mem_of_getElem? (i := 7) rfl)
theorem wq_11_8 : Cond.instanceMethod yX7_whyNoRing ∈ wsL_law := wc_11 _ (List.mem_of_getElem? (i := 8) rfl)
theorem wq_11_9 : Cond.selects RX7 yX7_whyNoRing yX7_whyNoRing ∈ wsL_law := wc_11 _ (List.mem_of_getElem? (i := 9) rfl)
theorem wq_11_10 : Cond.code yX7_whyNoRing cX7_whyNoRing 2 (some .int) ∈ wsL_law := wc_11 _ (List.mem_of_getElem? (i := 10) rfl)
theorem wq_11_11 : Cond.methodLink RX7 116 yX7_comes ∈ wsL_law := wc_11 _ (List.mem_of_getElem? (i := 11) rfl)
theorem wq_11_12 : Cond.instanceMethod yX7_comes ∈ wsL_law := wc_11 _ (List.mem_of_getElem? (i := 12) rfl)
theorem wq_11_13 : Cond.selects RX7 yX7_comes yX7_comes ∈ wsL_law := wc_11 _ (List.mem_of_getElem? (i := 13) rfl)
theorem wq_11_14 : Cond.code yX7_comes cX7_comes 2 (some .int) ∈ wsL_law := wc_11 _ (List.mem_of_getElem? (i := 14) rfl)
theorem wq_11_15 : Cond.methodLink RL 23 yX6_lose ∈ wsL_law := wc_11 _ (List.mem_of_getElem? (i := 15) rfl)
theorem wq_11_16 : Cond.instanceMethod yX6_lose ∈ wsL_law := wc_11 _ (List.mem_of_getElem? (i := 16) rfl)
theorem wq_11_17 : Cond.selects RX6 yX6_lose yX6_lose ∈ wsL_law := wc_11 _ (List.mem_of_getElem? (i := 17) rfl)
theorem wq_11_18 : Cond.code yX6_lose cX6_lose 1 (some .int) ∈ wsL_law := wc_11 _ (List.mem_of_getElem? (i := 18) rfl)
theorem wq_11_19 : Cond.methodLink RX6 56 yX4_dropRing ∈ wsL_law := wc_11 _ (List.mem_of_getElem? (i := 19) rfl)
theorem wq_11_20 : Cond.instanceMethod yX4_dropRing ∈ wsL_law := wc_11 _ (List.mem_of_getElem? (i := 20) rfl)
theorem wq_11_21 : Cond.selects RX4 yX4_dropRing yX4_dropRing ∈ wsL_law := wc_11 _ (List.mem_of_getElem? (i := 21) rfl)
theorem wq_11_22 : Cond.code yX4_dropRing cX4_dropRing 1 (some .int) ∈ wsL_law := wc_11 _ (List.mem_of_getElem? (i := 22) rfl)
theorem wq_11_23 : Cond.methodLink RL 27 yX7_lose ∈ wsL_law := wc_11 _ (List.mem_of_getElem? (i := 23) rfl)
theorem wq_12_0 : Cond.instanceMethod yX7_lose ∈ wsL_law := wc_12 _ (List.mem_of_getElem? (i := 0) rfl)
theorem wq_12_1 : Cond.selects RX7 yX7_lose yX7_lose ∈ wsL_law := wc_12 _ (List.mem_of_getElem? (i := 1) rfl)
theorem wq_12_2 : Cond.code yX7_lose cX7_lose 3 (some .int) ∈ wsL_law := wc_12 _ (List.mem_of_getElem? (i := 2) rfl)
theorem wq_12_3 : Cond.methodLink RL 28 yX6_stack ∈ wsL_law := wc_12 _ (List.mem_of_getElem? (i := 3) rfl)
theorem wq_12_4 : Cond.instanceMethod yX6_stack ∈ wsL_law := wc_12 _ (List.mem_of_getElem? (i := 4) rfl)
theorem wq_12_5 : Cond.selects RX6 yX6_stack yX6_stack ∈ wsL_law := wc_12 _ (List.mem_of_getElem? (i := 5) rfl)
theorem wq_12_6 : Cond.code yX6_stack cX6_stack 2 (some .int) ∈ wsL_law := wc_12 _ (List.mem_of_getElem? (i := 6) rfl)
theorem wq_12_7 : Cond.methodLink RX6 60 yX4_putOn ∈ wsL_law := wc_12 _ (List.mem_of_getElem? (i := 7) rfl)
theorem wq_12_8 : Cond.instanceMethod yX4_putOn ∈ wsL_law := wc_12 _ (List.mem_of_getElem? (i := 8) rfl)
theorem wq_12_9 : Cond.selects RX4 yX4_putOn yX4_putOn ∈ wsL_law := wc_12 _ (List.mem_of_getElem? (i := 9) rfl)
theorem wq_12_10 : Cond.code yX4_putOn cX4_putOn 2 (some .int) ∈ wsL_law := wc_12 _ (List.mem_of_getElem? (i := 10) rfl)
theorem wq_12_11 : Cond.methodLink RX4 66 yX4_hasRing ∈ wsL_law := wc_12 _ (List.mem_of_getElem? (i := 11) rfl)
theorem wq_12_12 : Cond.instanceMethod yX4_hasRing ∈ wsL_law := wc_12 _ (List.mem_of_getElem? (i := 12) rfl)
theorem wq_12_13 : Cond.selects RX4 yX4_hasRing yX4_hasRing ∈ wsL_law := wc_12 _ (List.mem_of_getElem? (i := 13) rfl)
theorem wq_12_14 : Cond.code yX4_hasRing cX4_hasRing 2 (some .boolean) ∈ wsL_law := wc_12 _ (List.mem_of_getElem? (i := 14) rfl)
theorem wq_12_15 : Cond.methodLink RX4 70 yX4_isStacked ∈ wsL_law := wc_12 _ (List.mem_of_getElem? (i := 15) rfl)
theorem wq_12_16 : Cond.instanceMethod yX4_isStacked ∈ wsL_law := wc_12 _ (List.mem_of_getElem? (i := 16) rfl)
theorem wq_12_17 : Cond.selects RX4 yX4_isStacked yX4_isStacked ∈ wsL_law := wc_12 _ (List.mem_of_getElem? (i := 17) rfl)
theorem wq_12_18 : Cond.code yX4_isStacked cX4_isStacked 2 (some .boolean) ∈ wsL_law := wc_12 _ (List.mem_of_getElem? (i := 18) rfl)
theorem wq_12_19 : Cond.methodLink RL 31 yX7_stack ∈ wsL_law := wc_12 _ (List.mem_of_getElem? (i := 19) rfl)
theorem wq_12_20 : Cond.instanceMethod yX7_stack ∈ wsL_law := wc_12 _ (List.mem_of_getElem? (i := 20) rfl)
theorem wq_12_21 : Cond.selects RX7 yX7_stack yX7_stack ∈ wsL_law := wc_12 _ (List.mem_of_getElem? (i := 21) rfl)
theorem wq_12_22 : Cond.code yX7_stack cX7_stack 3 (some .int) ∈ wsL_law := wc_12 _ (List.mem_of_getElem? (i := 22) rfl)
theorem wq_12_23 : Cond.methodLink RX7 126 yX7_whyNotMoved ∈ wsL_law := wc_12 _ (List.mem_of_getElem? (i := 23) rfl)
theorem wq_13_0 : Cond.instanceMethod yX7_whyNotMoved ∈ wsL_law := wc_13 _ (List.mem_of_getElem? (i := 0) rfl)
theorem wq_13_1 : Cond.selects RX7 yX7_whyNotMoved yX7_whyNotMoved ∈ wsL_law := wc_13 _ (List.mem_of_getElem? (i := 1) rfl)
theorem wq_13_2 : Cond.code yX7_whyNotMoved cX7_whyNotMoved 3 (some .int) ∈ wsL_law := wc_13 _ (List.mem_of_getElem? (i := 2) rfl)
theorem wq_13_3 : Cond.methodLink RX7 119 yX7_isRing ∈ wsL_law := wc_13 _ (List.mem_of_getElem? (i := 3) rfl)
theorem wq_13_4 : Cond.instanceMethod yX7_isRing ∈ wsL_law := wc_13 _ (List.mem_of_getElem? (i := 4) rfl)
theorem wq_13_5 : Cond.selects RX7 yX7_isRing yX7_isRing ∈ wsL_law := wc_13 _ (List.mem_of_getElem? (i := 5) rfl)
theorem wq_13_6 : Cond.code yX7_isRing cX7_isRing 2 (some .boolean) ∈ wsL_law := wc_13 _ (List.mem_of_getElem? (i := 6) rfl)
theorem wq_13_7 : Cond.methodLink RX7 123 yX7_isStacked ∈ wsL_law := wc_13 _ (List.mem_of_getElem? (i := 7) rfl)
theorem wq_13_8 : Cond.instanceMethod yX7_isStacked ∈ wsL_law := wc_13 _ (List.mem_of_getElem? (i := 8) rfl)
theorem wq_13_9 : Cond.selects RX7 yX7_isStacked yX7_isStacked ∈ wsL_law := wc_13 _ (List.mem_of_getElem? (i := 9) rfl)
theorem wq_13_10 : Cond.code yX7_isStacked cX7_isStacked 2 (some .boolean) ∈ wsL_law := wc_13 _ (List.mem_of_getElem? (i := 10) rfl)
theorem wq_13_11 : Cond.methodLink RX7 130 yX7_isMoved ∈ wsL_law := wc_13 _ (List.mem_of_getElem? (i := 11) rfl)
theorem wq_13_12 : Cond.instanceMethod yX7_isMoved ∈ wsL_law := wc_13 _ (List.mem_of_getElem? (i := 12) rfl)
theorem wq_13_13 : Cond.selects RX7 yX7_isMoved yX7_isMoved ∈ wsL_law := wc_13 _ (List.mem_of_getElem? (i := 13) rfl)
theorem wq_13_14 : Cond.code yX7_isMoved cX7_isMoved 2 (some .int) ∈ wsL_law := wc_13 _ (List.mem_of_getElem? (i := 14) rfl)
theorem wq_13_15 : Cond.methodLink RL 32 yX6_take ∈ wsL_law := wc_13 _ (List.mem_of_getElem? (i := 15) rfl)
theorem wq_13_16 : Cond.instanceMethod yX6_take ∈ wsL_law := wc_13 _ (List.mem_of_getElem? (i := 16) rfl)
theorem wq_13_17 : Cond.selects RX6 yX6_take yX6_take ∈ wsL_law := wc_13 _ (List.mem_of_getElem? (i := 17) rfl)
theorem wq_13_18 : Cond.code yX6_take cX6_take 2 (some .int) ∈ wsL_law := wc_13 _ (List.mem_of_getElem? (i := 18) rfl)
theorem wq_13_19 : Cond.methodLink RX6 63 yX4_takeOff ∈ wsL_law := wc_13 _ (List.mem_of_getElem? (i := 19) rfl)
theorem wq_13_20 : Cond.instanceMethod yX4_takeOff ∈ wsL_law := wc_13 _ (List.mem_of_getElem? (i := 20) rfl)
theorem wq_13_21 : Cond.selects RX4 yX4_takeOff yX4_takeOff ∈ wsL_law := wc_13 _ (List.mem_of_getElem? (i := 21) rfl)
theorem wq_13_22 : Cond.code yX4_takeOff cX4_takeOff 2 (some .int) ∈ wsL_law := wc_13 _ (List.mem_of_getElem? (i := 22) rfl)
theorem wq_13_23 : Cond.methodLink RL 35 yX7_take ∈ wsL_law := wc_13 _ (List.mem_of_getElem? (i := 23) rfl)
theorem wq_14_0 : Cond.instanceMethod yX7_take ∈ wsL_law := wc_14 _ (List.mem_of_getElem? (i := 0) rfl)
theorem wq_14_1 : Cond.selects RX7 yX7_take yX7_take ∈ wsL_law := wc_14 _ (List.mem_of_getElem? (i := 1) rfl)
theorem wq_14_2 : Cond.code yX7_take cX7_take 3 (some .int) ∈ wsL_law := wc_14 _ (List.mem_of_getElem? (i := 2) rfl)
theorem wq_14_3 : Cond.methodLink RL 36 yX6_gauge ∈ wsL_law := wc_14 _ (List.mem_of_getElem? (i := 3) rfl)
theorem wq_14_4 : Cond.instanceMethod yX6_gauge ∈ wsL_law := wc_14 _ (List.mem_of_getElem? (i := 4) rfl)
theorem wq_14_5 : Cond.selects RX6 yX6_gauge yX6_gauge ∈ wsL_law := wc_14 _ (List.mem_of_getElem? (i := 5) rfl)
theorem wq_14_6 : Cond.code yX6_gauge cX6_gauge 4 (some .int) ∈ wsL_law := wc_14 _ (List.mem_of_getElem? (i := 6) rfl)
theorem wq_14_7 : Cond.methodLink RX6 66 yX4_addGauge ∈ wsL_law := wc_14 _ (List.mem_of_getElem? (i := 7) rfl)
theorem wq_14_8 : Cond.instanceMethod yX4_addGauge ∈ wsL_law := wc_14 _ (List.mem_of_getElem? (i := 8) rfl)
theorem wq_14_9 : Cond.selects RX4 yX4_addGauge yX4_addGauge ∈ wsL_law := wc_14 _ (List.mem_of_getElem? (i := 9) rfl)
theorem wq_14_10 : Cond.code yX4_addGauge cX4_addGauge 4 (some .int) ∈ wsL_law := wc_14 _ (List.mem_of_getElem? (i := 10) rfl)
theorem wq_14_11 : Cond.methodLink RX4 73 yX1_begin ∈ wsL_law := wc_14 _ (List.mem_of_getElem? (i := 11) rfl)
theorem wq_14_12 : Cond.instanceMethod yX1_begin ∈ wsL_law := wc_14 _ (List.mem_of_getElem? (i := 12) rfl)
theorem wq_14_13 : Cond.selects RX1 yX1_begin yX1_begin ∈ wsL_law := wc_14 _ (List.mem_of_getElem? (i := 13) rfl)
theorem wq_14_14 : Cond.code yX1_begin cX1_begin 4 none ∈ wsL_law := wc_14 _ (List.mem_of_getElem? (i := 14) rfl)
theorem wq_14_15 : Cond.methodLink RL 40 yX7_gauge ∈ wsL_law := wc_14 _ (List.mem_of_getElem? (i := 15) rfl)
theorem wq_14_16 : Cond.instanceMethod yX7_gauge ∈ wsL_law := wc_14 _ (List.mem_of_getElem? (i := 16) rfl)
theorem wq_14_17 : Cond.selects RX7 yX7_gauge yX7_gauge ∈ wsL_law := wc_14 _ (List.mem_of_getElem? (i := 17) rfl)
theorem wq_14_18 : Cond.code yX7_gauge cX7_gauge 5 (some .int) ∈ wsL_law := wc_14 _ (List.mem_of_getElem? (i := 18) rfl)
theorem wq_14_19 : Cond.methodLink RX7 136 yX7_whyNoGauge ∈ wsL_law := wc_14 _ (List.mem_of_getElem? (i := 19) rfl)
theorem wq_14_20 : Cond.instanceMethod yX7_whyNoGauge ∈ wsL_law := wc_14 _ (List.mem_of_getElem? (i := 20) rfl)
theorem wq_14_21 : Cond.selects RX7 yX7_whyNoGauge yX7_whyNoGauge ∈ wsL_law := wc_14 _ (List.mem_of_getElem? (i := 21) rfl)
theorem wq_14_22 : Cond.code yX7_whyNoGauge cX7_whyNoGauge 4 (some .int) ∈ wsL_law := wc_14 _ (List.mem_of_getElem? (i := 22) rfl)
theorem wq_14_23 : Cond.methodLink RX7 133 yX7_isError ∈ wsL_law := wc_14 _ (List.mem_of_getElem? (i := 23) rfl)
theorem wq_15_0 : Cond.static yX7_isError ∈ wsL_law := wc_15 _ (List.mem_of_getElem? (i := 0) rfl)
theorem wq_15_1 : Cond.code yX7_isError cX7_isError 1 (some .boolean) ∈ wsL_law := wc_15 _ (List.mem_of_getElem? (i := 1) rfl)
theorem wq_15_2 : Cond.methodLink RX7 140 yX7_comesGauge ∈ wsL_law := wc_15 _ (List.mem_of_getElem? (i := 2) rfl)
theorem wq_15_3 : Cond.instanceMethod yX7_comesGauge ∈ wsL_law := wc_15 _ (List.mem_of_getElem? (i := 3) rfl)
theorem wq_15_4 : Cond.selects RX7 yX7_comesGauge yX7_comesGauge ∈ wsL_law := wc_15 _ (List.mem_of_getElem? (i := 4) rfl)
theorem wq_15_5 : Cond.code yX7_comesGauge cX7_comesGauge 6 (some .int) ∈ wsL_law := wc_15 _ (List.mem_of_getElem? (i := 5) rfl)
theorem wq_15_6 : Cond.methodLink RL 41 yX6_tune ∈ wsL_law := wc_15 _ (List.mem_of_getElem? (i := 6) rfl)
theorem wq_15_7 : Cond.instanceMethod yX6_tune ∈ wsL_law := wc_15 _ (List.mem_of_getElem? (i := 7) rfl)
theorem wq_15_8 : Cond.selects RX6 yX6_tune yX6_tune ∈ wsL_law := wc_15 _ (List.mem_of_getElem? (i := 8) rfl)
theorem wq_15_9 : Cond.code yX6_tune cX6_tune 3 (some .int) ∈ wsL_law := wc_15 _ (List.mem_of_getElem? (i := 9) rfl)
theorem wq_15_10 : Cond.methodLink RX6 70 yX4_adjust ∈ wsL_law := wc_15 _ (List.mem_of_getElem? (i := 10) rfl)
theorem wq_15_11 : Cond.instanceMethod yX4_adjust ∈ wsL_law := wc_15 _ (List.mem_of_getElem? (i := 11) rfl)
theorem wq_15_12 : Cond.selects RX4 yX4_adjust yX4_adjust ∈ wsL_law := wc_15 _ (List.mem_of_getElem? (i := 12) rfl)
theorem wq_15_13 : Cond.code yX4_adjust cX4_adjust 5 (some .int) ∈ wsL_law := wc_15 _ (List.mem_of_getElem? (i := 13) rfl)
theorem wq_15_14 : Cond.fieldLink RX4 88 "GaugeColumns$Gauge" "error" "I" ∈ wsL_law := wc_15 _ (List.mem_of_getElem? (i := 14) rfl)
theorem wq_15_15 : Cond.methodLink RX4 84 yX4_gaugeAt ∈ wsL_law := wc_15 _ (List.mem_of_getElem? (i := 15) rfl)
theorem wq_15_16 : Cond.instanceMethod yX4_gaugeAt ∈ wsL_law := wc_15 _ (List.mem_of_getElem? (i := 16) rfl)
theorem wq_15_17 : Cond.selects RX4 yX4_gaugeAt yX4_gaugeAt ∈ wsL_law := wc_15 _ (List.mem_of_getElem? (i := 17) rfl)
theorem wq_15_18 : Cond.code yX4_gaugeAt cX4_gaugeAt 2 (some (.object "GaugeColumns$Gauge")) ∈ wsL_law := wc_15 _ (List.mem_of_getElem? (i := 18) rfl)
theorem wq_15_19 : Cond.methodLink RL 44 yX7_tune ∈ wsL_law := wc_15 _ (List.mem_of_getElem? (i := 19) rfl)
theorem wq_15_20 : Cond.instanceMethod yX7_tune ∈ wsL_law := wc_15 _ (List.mem_of_getElem? (i := 20) rfl)
theorem wq_15_21 : Cond.selects RX7 yX7_tune yX7_tune ∈ wsL_law := wc_15 _ (List.mem_of_getElem? (i := 21) rfl)
theorem wq_15_22 : Cond.code yX7_tune cX7_tune 4 (some .int) ∈ wsL_law := wc_15 _ (List.mem_of_getElem? (i := 22) rfl)
theorem wq_15_23 : Cond.methodLink RX7 143 yX7_isGauge ∈ wsL_law := wc_15 _ (List.mem_of_getElem? (i := 23) rfl)
theorem wq_16_0 : Cond.instanceMethod yX7_isGauge ∈ wsL_law := wc_16 _ (List.mem_of_getElem? (i := 0) rfl)
theorem wq_16_1 : Cond.selects RX7 yX7_isGauge yX7_isGauge ∈ wsL_law := wc_16 _ (List.mem_of_getElem? (i := 1) rfl)
theorem wq_16_2 : Cond.code yX7_isGauge cX7_isGauge 2 (some .boolean) ∈ wsL_law := wc_16 _ (List.mem_of_getElem? (i := 2) rfl)
theorem wq_16_3 : Cond.methodLink RL 45 yX6_certify ∈ wsL_law := wc_16 _ (List.mem_of_getElem? (i := 3) rfl)
theorem wq_16_4 : Cond.instanceMethod yX6_certify ∈ wsL_law := wc_16 _ (List.mem_of_getElem? (i := 4) rfl)
theorem wq_16_5 : Cond.selects RX6 yX6_certify yX6_certify ∈ wsL_law := wc_16 _ (List.mem_of_getElem? (i := 5) rfl)
theorem wq_16_6 : Cond.code yX6_certify cX6_certify 2 (some .int) ∈ wsL_law := wc_16 _ (List.mem_of_getElem? (i := 6) rfl)
theorem wq_16_7 : Cond.methodLink RX6 73 yX4_certifyBy ∈ wsL_law := wc_16 _ (List.mem_of_getElem? (i := 7) rfl)
theorem wq_16_8 : Cond.instanceMethod yX4_certifyBy ∈ wsL_law := wc_16 _ (List.mem_of_getElem? (i := 8) rfl)
theorem wq_16_9 : Cond.selects RX4 yX4_certifyBy yX4_certifyBy ∈ wsL_law := wc_16 _ (List.mem_of_getElem? (i := 9) rfl)
theorem wq_16_10 : Cond.code yX4_certifyBy cX4_certifyBy 4 (some .int) ∈ wsL_law := wc_16 _ (List.mem_of_getElem? (i := 10) rfl)
theorem wq_16_11 : Cond.fieldLink RX4 105 "GaugeColumns$Trial" "greatest" "I" ∈ wsL_law := wc_16 _ (List.mem_of_getElem? (i := 11) rfl)
theorem wq_16_12 : Cond.classLink RX4 108 RX0 ∈ wsL_law := wc_16 _ (List.mem_of_getElem? (i := 12) rfl)
theorem wq_16_13 : Cond.instantiable RX0 3 ∈ wsL_law := wc_16 _ (List.mem_of_getElem? (i := 13) rfl)
theorem wq_16_14 : Cond.initialized RX0 ∈ wsL_law := wc_16 _ (List.mem_of_getElem? (i := 14) rfl)
theorem wq_16_15 : Cond.methodLink RX4 95 yX5_prepare ∈ wsL_law := wc_16 _ (List.mem_of_getElem? (i := 15) rfl)
theorem wq_16_16 : Cond.instanceMethod yX5_prepare ∈ wsL_law := wc_16 _ (List.mem_of_getElem? (i := 16) rfl)
theorem wq_16_17 : Cond.selects RX5 yX5_prepare yX5_prepare ∈ wsL_law := wc_16 _ (List.mem_of_getElem? (i := 17) rfl)
theorem wq_16_18 : Cond.code yX5_prepare cX5_prepare 5 none ∈ wsL_law := wc_16 _ (List.mem_of_getElem? (i := 18) rfl)
theorem wq_16_19 : Cond.fieldLink RX5 28 "GaugeColumns$Tester" "ringCount" "I" ∈ wsL_law := wc_16 _ (List.mem_of_getElem? (i := 19) rfl)
theorem wq_16_20 : Cond.fieldLink RX5 38 "GaugeColumns$Tester" "grams" "[I" ∈ wsL_law := wc_16 _ (List.mem_of_getElem? (i := 20) rfl)
theorem wq_16_21 : Cond.fieldLink RX5 41 "GaugeColumns$Tester" "settings" "[I" ∈ wsL_law := wc_16 _ (List.mem_of_getElem? (i := 21) rfl)
theorem wq_16_22 : Cond.fieldLink RX5 48 "GaugeColumns$Trial" "length" "I" ∈ wsL_law := wc_16 _ (List.mem_of_getElem? (i := 22) rfl)
theorem wq_16_23 : Cond.methodLink RX5 34 yX4_placeOf ∈ wsL_law := wc_16 _ (List.mem_of_getElem? (i := 23) rfl)
theorem wq_17_0 : Cond.instanceMethod yX4_placeOf ∈ wsL_law := wc_17 _ (List.mem_of_getElem? (i := 0) rfl)
theorem wq_17_1 : Cond.selects RX4 yX4_placeOf yX4_placeOf ∈ wsL_law := wc_17 _ (List.mem_of_getElem? (i := 1) rfl)
theorem wq_17_2 : Cond.code yX4_placeOf cX4_placeOf 4 (some .int) ∈ wsL_law := wc_17 _ (List.mem_of_getElem? (i := 2) rfl)
theorem wq_17_3 : Cond.methodLink RX5 44 yX4_pressureOf ∈ wsL_law := wc_17 _ (List.mem_of_getElem? (i := 3) rfl)
theorem wq_17_4 : Cond.methodLink RX4 101 yX5_run ∈ wsL_law := wc_17 _ (List.mem_of_getElem? (i := 4) rfl)
theorem wq_17_5 : Cond.instanceMethod yX5_run ∈ wsL_law := wc_17 _ (List.mem_of_getElem? (i := 5) rfl)
theorem wq_17_6 : Cond.selects RX5 yX5_run yX5_run ∈ wsL_law := wc_17 _ (List.mem_of_getElem? (i := 6) rfl)
theorem wq_17_7 : Cond.code yX5_run cX5_run 6 none ∈ wsL_law := wc_17 _ (List.mem_of_getElem? (i := 7) rfl)
theorem wq_17_8 : Cond.fieldLink RX5 51 "GaugeColumns$Gauge" "play" "I" ∈ wsL_law := wc_17 _ (List.mem_of_getElem? (i := 8) rfl)
theorem wq_17_9 : Cond.fieldLink RX5 54 "GaugeColumns$Gauge" "step" "I" ∈ wsL_law := wc_17 _ (List.mem_of_getElem? (i := 9) rfl)
theorem wq_17_10 : Cond.fieldLink RX5 61 "GaugeColumns$Trial" "greatest" "I" ∈ wsL_law := wc_17 _ (List.mem_of_getElem? (i := 10) rfl)
theorem wq_17_11 : Cond.fieldLink RX5 64 "GaugeColumns$Trial" "worst" "I" ∈ wsL_law := wc_17 _ (List.mem_of_getElem? (i := 11) rfl)
theorem wq_17_12 : Cond.methodLink RX5 75 Lib.Math.abs.name ∈ wsL_law := wc_17 _ (List.mem_of_getElem? (i := 12) rfl)
theorem wq_17_13 : Cond.methodLink RX5 57 yX1_begin ∈ wsL_law := wc_17 _ (List.mem_of_getElem? (i := 13) rfl)
theorem wq_17_14 : Cond.methodLink RX5 67 yX1_follow ∈ wsL_law := wc_17 _ (List.mem_of_getElem? (i := 14) rfl)
theorem wq_17_15 : Cond.methodLink RX5 71 yX1_shown ∈ wsL_law := wc_17 _ (List.mem_of_getElem? (i := 15) rfl)
theorem wq_17_16 : Cond.instanceMethod yX1_shown ∈ wsL_law := wc_17 _ (List.mem_of_getElem? (i := 16) rfl)
theorem wq_17_17 : Cond.selects RX1 yX1_shown yX1_shown ∈ wsL_law := wc_17 _ (List.mem_of_getElem? (i := 17) rfl)
theorem wq_17_18 : Cond.code yX1_shown cX1_shown 1 (some .int) ∈ wsL_law := wc_17 _ (List.mem_of_getElem? (i := 18) rfl)
theorem wq_17_19 : Cond.methodLink RX4 110 yX0_init ∈ wsL_law := wc_17 _ (List.mem_of_getElem? (i := 19) rfl)
theorem wq_17_20 : Cond.instanceMethod yX0_init ∈ wsL_law := wc_17 _ (List.mem_of_getElem? (i := 20) rfl)
theorem wq_17_21 : Cond.code yX0_init cX0_init 3 none ∈ wsL_law := wc_17 _ (List.mem_of_getElem? (i := 21) rfl)
theorem wq_17_22 : Cond.methodLink RX0 1 objectInit ∈ wsL_law := wc_17 _ (List.mem_of_getElem? (i := 22) rfl)
theorem wq_17_23 : Cond.fieldLink RX0 7 "GaugeColumns$Trial" "readings" "[I" ∈ wsL_law := wc_17 _ (List.mem_of_getElem? (i := 23) rfl)
theorem wq_18_0 : Cond.fieldLink RX0 13 "GaugeColumns$Trial" "length" "I" ∈ wsL_law := wc_18 _ (List.mem_of_getElem? (i := 0) rfl)
theorem wq_18_1 : Cond.fieldLink RX0 23 "GaugeColumns$Certificate" "readings" "[I" ∈ wsL_law := wc_18 _ (List.mem_of_getElem? (i := 1) rfl)
theorem wq_18_2 : Cond.fieldLink RX0 26 "GaugeColumns$Trial" "greatest" "I" ∈ wsL_law := wc_18 _ (List.mem_of_getElem? (i := 2) rfl)
theorem wq_18_3 : Cond.fieldLink RX0 29 "GaugeColumns$Certificate" "greatest" "I" ∈ wsL_law := wc_18 _ (List.mem_of_getElem? (i := 3) rfl)
theorem wq_18_4 : Cond.fieldLink RX0 30 "GaugeColumns$Certificate" "air" "I" ∈ wsL_law := wc_18 _ (List.mem_of_getElem? (i := 4) rfl)
theorem wq_18_5 : Cond.methodLink RX0 17 yJ7_copyOf_59c91 ∈ wsL_law := wc_18 _ (List.mem_of_getElem? (i := 5) rfl)
theorem wq_18_6 : Cond.static yJ7_copyOf_59c91 ∈ wsL_law := wc_18 _ (List.mem_of_getElem? (i := 6) rfl)
theorem wq_18_7 : Cond.initialized RJ7 ∈ wsL_law := wc_18 _ (List.mem_of_getElem? (i := 7) rfl)
theorem wq_18_8 : Cond.code yJ7_copyOf_59c91 cJ7_copyOf_59c91 3 (some (.array .int)) ∈ wsL_law := wc_18 _ (List.mem_of_getElem? (i := 8) rfl)
theorem wq_18_9 : Cond.methodLink RJ7 316 ⟨"[I", "clone", "()Ljava/lang/Object;"⟩ ∈ wsL_law := wc_18 _ (List.mem_of_getElem? (i := 9) rfl)
theorem wq_18_10 : Cond.classLink RJ7 317 "[I" ∈ wsL_law := wc_18 _ (List.mem_of_getElem? (i := 10) rfl)
theorem wq_18_11 : Cond.methodLink RJ7 304 Lib.Math.min.name ∈ wsL_law := wc_18 _ (List.mem_of_getElem? (i := 11) rfl)
theorem wq_18_12 : Cond.methodLink RJ7 150 arraycopyName ∈ wsL_law := wc_18 _ (List.mem_of_getElem? (i := 12) rfl)
theorem wq_18_13 : Cond.methodLink RL 48 yX7_certify ∈ wsL_law := wc_18 _ (List.mem_of_getElem? (i := 13) rfl)
theorem wq_18_14 : Cond.instanceMethod yX7_certify ∈ wsL_law := wc_18 _ (List.mem_of_getElem? (i := 14) rfl)
theorem wq_18_15 : Cond.selects RX7 yX7_certify yX7_certify ∈ wsL_law := wc_18 _ (List.mem_of_getElem? (i := 15) rfl)
theorem wq_18_16 : Cond.code yX7_certify cX7_certify 3 (some .int) ∈ wsL_law := wc_18 _ (List.mem_of_getElem? (i := 16) rfl)
theorem wq_18_17 : Cond.methodLink RX7 150 yX7_whyNotCertified ∈ wsL_law := wc_18 _ (List.mem_of_getElem? (i := 17) rfl)
theorem wq_18_18 : Cond.instanceMethod yX7_whyNotCertified ∈ wsL_law := wc_18 _ (List.mem_of_getElem? (i := 18) rfl)
theorem wq_18_19 : Cond.selects RX7 yX7_whyNotCertified yX7_whyNotCertified ∈ wsL_law := wc_18 _ (List.mem_of_getElem? (i := 19) rfl)
theorem wq_18_20 : Cond.code yX7_whyNotCertified cX7_whyNotCertified 2 (some .int) ∈ wsL_law := wc_18 _ (List.mem_of_getElem? (i := 20) rfl)
theorem wq_18_21 : Cond.methodLink RX7 153 yX7_certifies ∈ wsL_law := wc_18 _ (List.mem_of_getElem? (i := 21) rfl)
theorem wq_18_22 : Cond.instanceMethod yX7_certifies ∈ wsL_law := wc_18 _ (List.mem_of_getElem? (i := 22) rfl)
theorem wq_18_23 : Cond.selects RX7 yX7_certifies yX7_certifies ∈ wsL_law := wc_18 _ (List.mem_of_getElem? (i := 23) rfl)
theorem wq_19_0 : Cond.code yX7_certifies cX7_certifies 3 (some .int) ∈ wsL_law := wc_19 _ (List.mem_of_getElem? (i := 0) rfl)
theorem wq_19_1 : Cond.fieldLink RX7 85 "GaugeColumnsModel" "greatest" "I" ∈ wsL_law := wc_19 _ (List.mem_of_getElem? (i := 1) rfl)
theorem wq_19_2 : Cond.methodLink RX7 146 yX7_tests ∈ wsL_law := wc_19 _ (List.mem_of_getElem? (i := 2) rfl)
theorem wq_19_3 : Cond.instanceMethod yX7_tests ∈ wsL_law := wc_19 _ (List.mem_of_getElem? (i := 3) rfl)
theorem wq_19_4 : Cond.selects RX7 yX7_tests yX7_tests ∈ wsL_law := wc_19 _ (List.mem_of_getElem? (i := 4) rfl)
theorem wq_19_5 : Cond.code yX7_tests cX7_tests 10 none ∈ wsL_law := wc_19 _ (List.mem_of_getElem? (i := 5) rfl)
theorem wq_19_6 : Cond.fieldLink RX7 88 "GaugeColumnsModel" "placeOfGreatest" "I" ∈ wsL_law := wc_19 _ (List.mem_of_getElem? (i := 6) rfl)
theorem wq_19_7 : Cond.methodLink RX7 91 yX7_findOrder ∈ wsL_law := wc_19 _ (List.mem_of_getElem? (i := 7) rfl)
theorem wq_19_8 : Cond.instanceMethod yX7_findOrder ∈ wsL_law := wc_19 _ (List.mem_of_getElem? (i := 8) rfl)
theorem wq_19_9 : Cond.selects RX7 yX7_findOrder yX7_findOrder ∈ wsL_law := wc_19 _ (List.mem_of_getElem? (i := 9) rfl)
theorem wq_19_10 : Cond.code yX7_findOrder cX7_findOrder 3 none ∈ wsL_law := wc_19 _ (List.mem_of_getElem? (i := 10) rfl)
theorem wq_19_11 : Cond.methodLink RX7 94 yX7_reads ∈ wsL_law := wc_19 _ (List.mem_of_getElem? (i := 11) rfl)
theorem wq_19_12 : Cond.static yX7_reads ∈ wsL_law := wc_19 _ (List.mem_of_getElem? (i := 12) rfl)
theorem wq_19_13 : Cond.code yX7_reads cX7_reads 2 (some .int) ∈ wsL_law := wc_19 _ (List.mem_of_getElem? (i := 13) rfl)
theorem wq_19_14 : Cond.methodLink RL 49 yX6_ofRing ∈ wsL_law := wc_19 _ (List.mem_of_getElem? (i := 14) rfl)
theorem wq_19_15 : Cond.instanceMethod yX6_ofRing ∈ wsL_law := wc_19 _ (List.mem_of_getElem? (i := 15) rfl)
theorem wq_19_16 : Cond.selects RX6 yX6_ofRing yX6_ofRing ∈ wsL_law := wc_19 _ (List.mem_of_getElem? (i := 16) rfl)
theorem wq_19_17 : Cond.code yX6_ofRing cX6_ofRing 3 (some .int) ∈ wsL_law := wc_19 _ (List.mem_of_getElem? (i := 17) rfl)
theorem wq_19_18 : Cond.fieldLink RX6 81 "GaugeColumns$Tester" "grams" "[I" ∈ wsL_law := wc_19 _ (List.mem_of_getElem? (i := 18) rfl)
theorem wq_19_19 : Cond.methodLink RX6 77 yX4_hasRing ∈ wsL_law := wc_19 _ (List.mem_of_getElem? (i := 19) rfl)
theorem wq_19_20 : Cond.methodLink RX6 85 yX4_isStacked ∈ wsL_law := wc_19 _ (List.mem_of_getElem? (i := 20) rfl)
theorem wq_19_21 : Cond.methodLink RX6 88 yX4_placeOf ∈ wsL_law := wc_19 _ (List.mem_of_getElem? (i := 21) rfl)
theorem wq_19_22 : Cond.methodLink RL 52 yX7_ofRing ∈ wsL_law := wc_19 _ (List.mem_of_getElem? (i := 22) rfl)
theorem wq_19_23 : Cond.instanceMethod yX7_ofRing ∈ wsL_law := wc_19 _ (List.mem_of_getElem? (i := 23) rfl)
theorem wq_20_0 : Cond.selects RX7 yX7_ofRing yX7_ofRing ∈ wsL_law := wc_20 _ (List.mem_of_getElem? (i := 0) rfl)
theorem wq_20_1 : Cond.code yX7_ofRing cX7_ofRing 3 (some .int) ∈ wsL_law := wc_20 _ (List.mem_of_getElem? (i := 1) rfl)
theorem wq_20_2 : Cond.methodLink RX7 156 yX7_placeOf ∈ wsL_law := wc_20 _ (List.mem_of_getElem? (i := 2) rfl)
theorem wq_20_3 : Cond.instanceMethod yX7_placeOf ∈ wsL_law := wc_20 _ (List.mem_of_getElem? (i := 3) rfl)
theorem wq_20_4 : Cond.selects RX7 yX7_placeOf yX7_placeOf ∈ wsL_law := wc_20 _ (List.mem_of_getElem? (i := 4) rfl)
theorem wq_20_5 : Cond.code yX7_placeOf cX7_placeOf 4 (some .int) ∈ wsL_law := wc_20 _ (List.mem_of_getElem? (i := 5) rfl)
theorem wq_20_6 : Cond.methodLink RL 53 yX6_ofGauge ∈ wsL_law := wc_20 _ (List.mem_of_getElem? (i := 6) rfl)
theorem wq_20_7 : Cond.instanceMethod yX6_ofGauge ∈ wsL_law := wc_20 _ (List.mem_of_getElem? (i := 7) rfl)
theorem wq_20_8 : Cond.selects RX6 yX6_ofGauge yX6_ofGauge ∈ wsL_law := wc_20 _ (List.mem_of_getElem? (i := 8) rfl)
theorem wq_20_9 : Cond.code yX6_ofGauge cX6_ofGauge 4 (some .int) ∈ wsL_law := wc_20 _ (List.mem_of_getElem? (i := 9) rfl)
theorem wq_20_10 : Cond.methodLink RX6 91 yX4_gaugeAt ∈ wsL_law := wc_20 _ (List.mem_of_getElem? (i := 10) rfl)
theorem wq_20_11 : Cond.methodLink RX6 95 yX1_tell ∈ wsL_law := wc_20 _ (List.mem_of_getElem? (i := 11) rfl)
theorem wq_20_12 : Cond.instanceMethod yX1_tell ∈ wsL_law := wc_20 _ (List.mem_of_getElem? (i := 12) rfl)
theorem wq_20_13 : Cond.selects RX1 yX1_tell yX1_tell ∈ wsL_law := wc_20 _ (List.mem_of_getElem? (i := 13) rfl)
theorem wq_20_14 : Cond.code yX1_tell cX1_tell 2 (some .int) ∈ wsL_law := wc_20 _ (List.mem_of_getElem? (i := 14) rfl)
theorem wq_20_15 : Cond.fieldLink RX1 45 "GaugeColumns$Certificate" "greatest" "I" ∈ wsL_law := wc_20 _ (List.mem_of_getElem? (i := 15) rfl)
theorem wq_20_16 : Cond.fieldLink RX1 50 "GaugeColumns$Certificate" "air" "I" ∈ wsL_law := wc_20 _ (List.mem_of_getElem? (i := 16) rfl)
theorem wq_20_17 : Cond.methodLink RX1 41 yX1_shown ∈ wsL_law := wc_20 _ (List.mem_of_getElem? (i := 17) rfl)
theorem wq_20_18 : Cond.methodLink RL 56 yX7_ofGauge ∈ wsL_law := wc_20 _ (List.mem_of_getElem? (i := 18) rfl)
theorem wq_20_19 : Cond.instanceMethod yX7_ofGauge ∈ wsL_law := wc_20 _ (List.mem_of_getElem? (i := 19) rfl)
theorem wq_20_20 : Cond.selects RX7 yX7_ofGauge yX7_ofGauge ∈ wsL_law := wc_20 _ (List.mem_of_getElem? (i := 20) rfl)
theorem wq_20_21 : Cond.code yX7_ofGauge cX7_ofGauge 4 (some .int) ∈ wsL_law := wc_20 _ (List.mem_of_getElem? (i := 21) rfl)
theorem wq_20_22 : Cond.methodLink RL 57 yX6_reading ∈ wsL_law := wc_20 _ (List.mem_of_getElem? (i := 22) rfl)
theorem wq_20_23 : Cond.instanceMethod yX6_reading ∈ wsL_law := wc_20 _ (List.mem_of_getElem? (i := 23) rfl)
theorem wq_21_0 : Cond.selects RX6 yX6_reading yX6_reading ∈ wsL_law := wc_21 _ (List.mem_of_getElem? (i := 0) rfl)
theorem wq_21_1 : Cond.code yX6_reading cX6_reading 5 (some .int) ∈ wsL_law := wc_21 _ (List.mem_of_getElem? (i := 1) rfl)
theorem wq_21_2 : Cond.fieldLink RX6 100 "GaugeColumns$Gauge" "certificate" "LGaugeColumns$Certificate;" ∈ wsL_law := wc_21 _ (List.mem_of_getElem? (i := 2) rfl)
theorem wq_21_3 : Cond.fieldLink RX6 104 "GaugeColumns$Certificate" "readings" "[I" ∈ wsL_law := wc_21 _ (List.mem_of_getElem? (i := 3) rfl)
theorem wq_21_4 : Cond.methodLink RL 60 yX7_reading ∈ wsL_law := wc_21 _ (List.mem_of_getElem? (i := 4) rfl)
theorem wq_21_5 : Cond.instanceMethod yX7_reading ∈ wsL_law := wc_21 _ (List.mem_of_getElem? (i := 5) rfl)
theorem wq_21_6 : Cond.selects RX7 yX7_reading yX7_reading ∈ wsL_law := wc_21 _ (List.mem_of_getElem? (i := 6) rfl)
theorem wq_21_7 : Cond.code yX7_reading cX7_reading 3 (some .int) ∈ wsL_law := wc_21 _ (List.mem_of_getElem? (i := 7) rfl)
theorem wq_21_8 : Cond.methodLink RL 61 yX6_count ∈ wsL_law := wc_21 _ (List.mem_of_getElem? (i := 8) rfl)
theorem wq_21_9 : Cond.instanceMethod yX6_count ∈ wsL_law := wc_21 _ (List.mem_of_getElem? (i := 9) rfl)
theorem wq_21_10 : Cond.selects RX6 yX6_count yX6_count ∈ wsL_law := wc_21 _ (List.mem_of_getElem? (i := 10) rfl)
theorem wq_21_11 : Cond.code yX6_count cX6_count 2 (some .int) ∈ wsL_law := wc_21 _ (List.mem_of_getElem? (i := 11) rfl)
theorem wq_21_12 : Cond.fieldLink RX6 109 "GaugeColumns$Tester" "ringCount" "I" ∈ wsL_law := wc_21 _ (List.mem_of_getElem? (i := 12) rfl)
theorem wq_21_13 : Cond.fieldLink RX6 113 "GaugeColumns$Tester" "gaugeCount" "I" ∈ wsL_law := wc_21 _ (List.mem_of_getElem? (i := 13) rfl)
theorem wq_21_14 : Cond.fieldLink RX6 116 "GaugeColumns$Tester" "column" "I" ∈ wsL_law := wc_21 _ (List.mem_of_getElem? (i := 14) rfl)
theorem wq_21_15 : Cond.fieldLink RX6 122 "GaugeColumns$Tester" "settings" "[I" ∈ wsL_law := wc_21 _ (List.mem_of_getElem? (i := 15) rfl)
theorem wq_21_16 : Cond.fieldLink RX6 134 "GaugeColumns$Pad" "length" "I" ∈ wsL_law := wc_21 _ (List.mem_of_getElem? (i := 16) rfl)
theorem wq_21_17 : Cond.fieldLink RX6 137 "GaugeColumns$History" "kept" "I" ∈ wsL_law := wc_21 _ (List.mem_of_getElem? (i := 17) rfl)
theorem wq_21_18 : Cond.methodLink RX6 119 yX4_massOf ∈ wsL_law := wc_21 _ (List.mem_of_getElem? (i := 18) rfl)
theorem wq_21_19 : Cond.methodLink RX6 125 yX6_weightOf ∈ wsL_law := wc_21 _ (List.mem_of_getElem? (i := 19) rfl)
theorem wq_21_20 : Cond.methodLink RX6 128 yX4_columnPressure ∈ wsL_law := wc_21 _ (List.mem_of_getElem? (i := 20) rfl)
theorem wq_21_21 : Cond.methodLink RX6 131 yX4_countCertificates ∈ wsL_law := wc_21 _ (List.mem_of_getElem? (i := 21) rfl)
theorem wq_21_22 : Cond.instanceMethod yX4_countCertificates ∈ wsL_law := wc_21 _ (List.mem_of_getElem? (i := 22) rfl)
theorem wq_21_23 : Cond.selects RX4 yX4_countCertificates yX4_countCertificates ∈ wsL_law := wc_21 _ (List.mem_of_getElem? (i := 23) rfl)
theorem wq_22_0 : Cond.code yX4_countCertificates cX4_countCertificates 3 (some .int) ∈ wsL_law := wc_22 _ (List.mem_of_getElem? (i := 0) rfl)
theorem wq_22_1 : Cond.methodLink RL 64 yX7_count ∈ wsL_law := wc_22 _ (List.mem_of_getElem? (i := 1) rfl)
theorem wq_22_2 : Cond.instanceMethod yX7_count ∈ wsL_law := wc_22 _ (List.mem_of_getElem? (i := 2) rfl)
theorem wq_22_3 : Cond.selects RX7 yX7_count yX7_count ∈ wsL_law := wc_22 _ (List.mem_of_getElem? (i := 3) rfl)
theorem wq_22_4 : Cond.code yX7_count cX7_count 2 (some .int) ∈ wsL_law := wc_22 _ (List.mem_of_getElem? (i := 4) rfl)
theorem wq_22_5 : Cond.fieldLink RX7 163 "GaugeColumnsModel" "padLength" "I" ∈ wsL_law := wc_22 _ (List.mem_of_getElem? (i := 5) rfl)
theorem wq_22_6 : Cond.methodLink RX7 159 yX7_certificates ∈ wsL_law := wc_22 _ (List.mem_of_getElem? (i := 6) rfl)
theorem wq_22_7 : Cond.instanceMethod yX7_certificates ∈ wsL_law := wc_22 _ (List.mem_of_getElem? (i := 7) rfl)
theorem wq_22_8 : Cond.selects RX7 yX7_certificates yX7_certificates ∈ wsL_law := wc_22 _ (List.mem_of_getElem? (i := 8) rfl)
theorem wq_22_9 : Cond.code yX7_certificates cX7_certificates 3 (some .int) ∈ wsL_law := wc_22 _ (List.mem_of_getElem? (i := 9) rfl)
theorem wq_22_10 : Cond.methodLink RL 65 yX6_pressure ∈ wsL_law := wc_22 _ (List.mem_of_getElem? (i := 10) rfl)
theorem wq_22_11 : Cond.instanceMethod yX6_pressure ∈ wsL_law := wc_22 _ (List.mem_of_getElem? (i := 11) rfl)
theorem wq_22_12 : Cond.selects RX6 yX6_pressure yX6_pressure ∈ wsL_law := wc_22 _ (List.mem_of_getElem? (i := 12) rfl)
theorem wq_22_13 : Cond.code yX6_pressure cX6_pressure 2 (some .int) ∈ wsL_law := wc_22 _ (List.mem_of_getElem? (i := 13) rfl)
theorem wq_22_14 : Cond.methodLink RX6 140 yX4_pressureOf ∈ wsL_law := wc_22 _ (List.mem_of_getElem? (i := 14) rfl)
theorem wq_22_15 : Cond.methodLink RL 68 yX7_pressure ∈ wsL_law := wc_22 _ (List.mem_of_getElem? (i := 15) rfl)
theorem wq_22_16 : Cond.instanceMethod yX7_pressure ∈ wsL_law := wc_22 _ (List.mem_of_getElem? (i := 16) rfl)
theorem wq_22_17 : Cond.selects RX7 yX7_pressure yX7_pressure ∈ wsL_law := wc_22 _ (List.mem_of_getElem? (i := 17) rfl)
theorem wq_22_18 : Cond.code yX7_pressure cX7_pressure 2 (some .int) ∈ wsL_law := wc_22 _ (List.mem_of_getElem? (i := 18) rfl)
theorem wq_22_19 : Cond.methodLink RL 69 yX6_nearest ∈ wsL_law := wc_22 _ (List.mem_of_getElem? (i := 19) rfl)
theorem wq_22_20 : Cond.instanceMethod yX6_nearest ∈ wsL_law := wc_22 _ (List.mem_of_getElem? (i := 20) rfl)
theorem wq_22_21 : Cond.selects RX6 yX6_nearest yX6_nearest ∈ wsL_law := wc_22 _ (List.mem_of_getElem? (i := 21) rfl)
theorem wq_22_22 : Cond.code yX6_nearest cX6_nearest 4 (some .int) ∈ wsL_law := wc_22 _ (List.mem_of_getElem? (i := 22) rfl)
theorem wq_22_23 : Cond.methodLink RX6 143 yX4_nearestTo ∈ wsL_law := wc_22 _ (List.mem_of_getElem? (i := 23) rfl)
theorem wq_23_0 : Cond.instanceMethod yX4_nearestTo ∈ wsL_law := wc_23 _ (List.mem_of_getElem? (i := 0) rfl)
theorem wq_23_1 : Cond.selects RX4 yX4_nearestTo yX4_nearestTo ∈ wsL_law := wc_23 _ (List.mem_of_getElem? (i := 1) rfl)
theorem wq_23_2 : Cond.code yX4_nearestTo cX4_nearestTo 7 (some .int) ∈ wsL_law := wc_23 _ (List.mem_of_getElem? (i := 2) rfl)
theorem wq_23_3 : Cond.constant RX4 127 (2147483647) ∈ wsL_law := wc_23 _ (List.mem_of_getElem? (i := 3) rfl)
theorem wq_23_4 : Cond.methodLink RX4 128 Lib.Math.abs.name ∈ wsL_law := wc_23 _ (List.mem_of_getElem? (i := 4) rfl)
theorem wq_23_5 : Cond.methodLink RX4 133 yJ6_bitCount_0f7a4 ∈ wsL_law := wc_23 _ (List.mem_of_getElem? (i := 5) rfl)
theorem wq_23_6 : Cond.static yJ6_bitCount_0f7a4 ∈ wsL_law := wc_23 _ (List.mem_of_getElem? (i := 6) rfl)
theorem wq_23_7 : Cond.initialized RJ6 ∈ wsL_law := wc_23 _ (List.mem_of_getElem? (i := 7) rfl)
theorem wq_23_8 : Cond.code yJ6_bitCount_0f7a4 cJ6_bitCount_0f7a4 1 (some .int) ∈ wsL_law := wc_23 _ (List.mem_of_getElem? (i := 8) rfl)
theorem wq_23_9 : Cond.constant RJ6 265 (1431655765) ∈ wsL_law := wc_23 _ (List.mem_of_getElem? (i := 9) rfl)
theorem wq_23_10 : Cond.constant RJ6 266 (858993459) ∈ wsL_law := wc_23 _ (List.mem_of_getElem? (i := 10) rfl)
theorem wq_23_11 : Cond.constant RJ6 267 (252645135) ∈ wsL_law := wc_23 _ (List.mem_of_getElem? (i := 11) rfl)
theorem wq_23_12 : Cond.methodLink RX4 138 yX4_massToNext ∈ wsL_law := wc_23 _ (List.mem_of_getElem? (i := 12) rfl)
theorem wq_23_13 : Cond.instanceMethod yX4_massToNext ∈ wsL_law := wc_23 _ (List.mem_of_getElem? (i := 13) rfl)
theorem wq_23_14 : Cond.selects RX4 yX4_massToNext yX4_massToNext ∈ wsL_law := wc_23 _ (List.mem_of_getElem? (i := 14) rfl)
theorem wq_23_15 : Cond.code yX4_massToNext cX4_massToNext 4 (some .int) ∈ wsL_law := wc_23 _ (List.mem_of_getElem? (i := 15) rfl)
theorem wq_23_16 : Cond.methodLink RL 72 yX7_nearest ∈ wsL_law := wc_23 _ (List.mem_of_getElem? (i := 16) rfl)
theorem wq_23_17 : Cond.instanceMethod yX7_nearest ∈ wsL_law := wc_23 _ (List.mem_of_getElem? (i := 17) rfl)
theorem wq_23_18 : Cond.selects RX7 yX7_nearest yX7_nearest ∈ wsL_law := wc_23 _ (List.mem_of_getElem? (i := 18) rfl)
theorem wq_23_19 : Cond.code yX7_nearest cX7_nearest 7 (some .int) ∈ wsL_law := wc_23 _ (List.mem_of_getElem? (i := 19) rfl)
theorem wq_23_20 : Cond.methodLink RX7 166 yX7_bits ∈ wsL_law := wc_23 _ (List.mem_of_getElem? (i := 20) rfl)
theorem wq_23_21 : Cond.static yX7_bits ∈ wsL_law := wc_23 _ (List.mem_of_getElem? (i := 21) rfl)
theorem wq_23_22 : Cond.code yX7_bits cX7_bits 3 (some .int) ∈ wsL_law := wc_23 _ (List.mem_of_getElem? (i := 22) rfl)
theorem wq_23_23 : Cond.methodLink RL 73 yX6_test ∈ wsL_law := wc_23 _ (List.mem_of_getElem? (i := 23) rfl)
theorem wq_24_0 : Cond.instanceMethod yX6_test ∈ wsL_law := wc_24 _ (List.mem_of_getElem? (i := 0) rfl)
theorem wq_24_1 : Cond.selects RX6 yX6_test yX6_test ∈ wsL_law := wc_24 _ (List.mem_of_getElem? (i := 1) rfl)
theorem wq_24_2 : Cond.code yX6_test cX6_test 4 (some .int) ∈ wsL_law := wc_24 _ (List.mem_of_getElem? (i := 2) rfl)
theorem wq_24_3 : Cond.fieldLink RX6 149 "GaugeColumns$Gauge" "error" "I" ∈ wsL_law := wc_24 _ (List.mem_of_getElem? (i := 3) rfl)
theorem wq_24_4 : Cond.fieldLink RX6 156 "GaugeColumns$Trial" "greatest" "I" ∈ wsL_law := wc_24 _ (List.mem_of_getElem? (i := 4) rfl)
theorem wq_24_5 : Cond.fieldLink RX6 159 "GaugeColumns$Trial" "worst" "I" ∈ wsL_law := wc_24 _ (List.mem_of_getElem? (i := 5) rfl)
theorem wq_24_6 : Cond.fieldLink RX6 162 "GaugeColumns$Trial" "length" "I" ∈ wsL_law := wc_24 _ (List.mem_of_getElem? (i := 6) rfl)
theorem wq_24_7 : Cond.methodLink RX6 146 yX5_prepare ∈ wsL_law := wc_24 _ (List.mem_of_getElem? (i := 7) rfl)
theorem wq_24_8 : Cond.methodLink RX6 152 yX5_run ∈ wsL_law := wc_24 _ (List.mem_of_getElem? (i := 8) rfl)
theorem wq_24_9 : Cond.methodLink RL 76 yX7_test ∈ wsL_law := wc_24 _ (List.mem_of_getElem? (i := 9) rfl)
theorem wq_24_10 : Cond.instanceMethod yX7_test ∈ wsL_law := wc_24 _ (List.mem_of_getElem? (i := 10) rfl)
theorem wq_24_11 : Cond.selects RX7 yX7_test yX7_test ∈ wsL_law := wc_24 _ (List.mem_of_getElem? (i := 11) rfl)
theorem wq_24_12 : Cond.code yX7_test cX7_test 3 (some .int) ∈ wsL_law := wc_24 _ (List.mem_of_getElem? (i := 12) rfl)
theorem wq_24_13 : Cond.methodLink RL 77 yX6_bestError ∈ wsL_law := wc_24 _ (List.mem_of_getElem? (i := 13) rfl)
theorem wq_24_14 : Cond.instanceMethod yX6_bestError ∈ wsL_law := wc_24 _ (List.mem_of_getElem? (i := 14) rfl)
theorem wq_24_15 : Cond.selects RX6 yX6_bestError yX6_bestError ∈ wsL_law := wc_24 _ (List.mem_of_getElem? (i := 15) rfl)
theorem wq_24_16 : Cond.code yX6_bestError cX6_bestError 7 (some .int) ∈ wsL_law := wc_24 _ (List.mem_of_getElem? (i := 16) rfl)
theorem wq_24_17 : Cond.constant RX6 163 (2147483647) ∈ wsL_law := wc_24 _ (List.mem_of_getElem? (i := 17) rfl)
theorem wq_24_18 : Cond.methodLink RL 80 yX7_bestError ∈ wsL_law := wc_24 _ (List.mem_of_getElem? (i := 18) rfl)
theorem wq_24_19 : Cond.instanceMethod yX7_bestError ∈ wsL_law := wc_24 _ (List.mem_of_getElem? (i := 19) rfl)
theorem wq_24_20 : Cond.selects RX7 yX7_bestError yX7_bestError ∈ wsL_law := wc_24 _ (List.mem_of_getElem? (i := 20) rfl)
theorem wq_24_21 : Cond.code yX7_bestError cX7_bestError 7 (some .int) ∈ wsL_law := wc_24 _ (List.mem_of_getElem? (i := 21) rfl)
theorem wq_24_22 : Cond.methodLink RL 81 yX6_airCosts ∈ wsL_law := wc_24 _ (List.mem_of_getElem? (i := 22) rfl)
theorem wq_24_23 : Cond.instanceMethod yX6_airCosts ∈ wsL_law := wc_24 _ (List.mem_of_getElem? (i := 23) rfl)
theorem wq_25_0 : Cond.selects RX6 yX6_airCosts yX6_airCosts ∈ wsL_law := wc_25 _ (List.mem_of_getElem? (i := 0) rfl)
theorem wq_25_1 : Cond.code yX6_airCosts cX6_airCosts 2 (some .int) ∈ wsL_law := wc_25 _ (List.mem_of_getElem? (i := 1) rfl)
theorem wq_25_2 : Cond.fieldLink RX6 164 "GaugeColumns" "LEAST" "[I" ∈ wsL_law := wc_25 _ (List.mem_of_getElem? (i := 2) rfl)
theorem wq_25_3 : Cond.fieldLink RX6 167 "GaugeColumns" "MOST" "[I" ∈ wsL_law := wc_25 _ (List.mem_of_getElem? (i := 3) rfl)
theorem wq_25_4 : Cond.methodLink RL 84 yX7_airCosts ∈ wsL_law := wc_25 _ (List.mem_of_getElem? (i := 4) rfl)
theorem wq_25_5 : Cond.instanceMethod yX7_airCosts ∈ wsL_law := wc_25 _ (List.mem_of_getElem? (i := 5) rfl)
theorem wq_25_6 : Cond.selects RX7 yX7_airCosts yX7_airCosts ∈ wsL_law := wc_25 _ (List.mem_of_getElem? (i := 6) rfl)
theorem wq_25_7 : Cond.code yX7_airCosts cX7_airCosts 3 (some .int) ∈ wsL_law := wc_25 _ (List.mem_of_getElem? (i := 7) rfl)
theorem wq_25_8 : Cond.methodLink RL 87 yX6_put ∈ wsL_law := wc_25 _ (List.mem_of_getElem? (i := 8) rfl)
theorem wq_25_9 : Cond.instanceMethod yX6_put ∈ wsL_law := wc_25 _ (List.mem_of_getElem? (i := 9) rfl)
theorem wq_25_10 : Cond.selects RX6 yX6_put yX6_put ∈ wsL_law := wc_25 _ (List.mem_of_getElem? (i := 10) rfl)
theorem wq_25_11 : Cond.code yX6_put cX6_put 3 (some .int) ∈ wsL_law := wc_25 _ (List.mem_of_getElem? (i := 11) rfl)
theorem wq_25_12 : Cond.methodLink RX6 170 yX3_append ∈ wsL_law := wc_25 _ (List.mem_of_getElem? (i := 12) rfl)
theorem wq_25_13 : Cond.instanceMethod yX3_append ∈ wsL_law := wc_25 _ (List.mem_of_getElem? (i := 13) rfl)
theorem wq_25_14 : Cond.selects RX3 yX3_append yX3_append ∈ wsL_law := wc_25 _ (List.mem_of_getElem? (i := 14) rfl)
theorem wq_25_15 : Cond.code yX3_append cX3_append 5 (some .int) ∈ wsL_law := wc_25 _ (List.mem_of_getElem? (i := 15) rfl)
theorem wq_25_16 : Cond.fieldLink RX3 23 "GaugeColumns$Pad" "length" "I" ∈ wsL_law := wc_25 _ (List.mem_of_getElem? (i := 16) rfl)
theorem wq_25_17 : Cond.constantLong RX3 27 (255) ∈ wsL_law := wc_25 _ (List.mem_of_getElem? (i := 17) rfl)
theorem wq_25_18 : Cond.methodLink RX3 19 yX3_howMany ∈ wsL_law := wc_25 _ (List.mem_of_getElem? (i := 18) rfl)
theorem wq_25_19 : Cond.static yX3_howMany ∈ wsL_law := wc_25 _ (List.mem_of_getElem? (i := 19) rfl)
theorem wq_25_20 : Cond.code yX3_howMany cX3_howMany 5 (some .int) ∈ wsL_law := wc_25 _ (List.mem_of_getElem? (i := 20) rfl)
theorem wq_25_21 : Cond.constantLong RX3 29 (33) ∈ wsL_law := wc_25 _ (List.mem_of_getElem? (i := 21) rfl)
theorem wq_25_22 : Cond.constantLong RX3 31 (126) ∈ wsL_law := wc_25 _ (List.mem_of_getElem? (i := 22) rfl)
theorem wq_25_23 : Cond.methodLink RL 91 yX7_put ∈ wsL_law := wc_25 _ (List.mem_of_getElem? (i := 23) rfl)
theorem wq_26_0 : Cond.instanceMethod yX7_put ∈ wsL_law := wc_26 _ (List.mem_of_getElem? (i := 0) rfl)
theorem wq_26_1 : Cond.selects RX7 yX7_put yX7_put ∈ wsL_law := wc_26 _ (List.mem_of_getElem? (i := 1) rfl)
theorem wq_26_2 : Cond.code yX7_put cX7_put 8 (some .int) ∈ wsL_law := wc_26 _ (List.mem_of_getElem? (i := 2) rfl)
theorem wq_26_3 : Cond.constantLong RX7 169 (255) ∈ wsL_law := wc_26 _ (List.mem_of_getElem? (i := 3) rfl)
theorem wq_26_4 : Cond.methodLink RL 92 yX6_wipe ∈ wsL_law := wc_26 _ (List.mem_of_getElem? (i := 4) rfl)
theorem wq_26_5 : Cond.instanceMethod yX6_wipe ∈ wsL_law := wc_26 _ (List.mem_of_getElem? (i := 5) rfl)
theorem wq_26_6 : Cond.selects RX6 yX6_wipe yX6_wipe ∈ wsL_law := wc_26 _ (List.mem_of_getElem? (i := 6) rfl)
theorem wq_26_7 : Cond.code yX6_wipe cX6_wipe 1 (some .int) ∈ wsL_law := wc_26 _ (List.mem_of_getElem? (i := 7) rfl)
theorem wq_26_8 : Cond.methodLink RX6 174 yX3_clear ∈ wsL_law := wc_26 _ (List.mem_of_getElem? (i := 8) rfl)
theorem wq_26_9 : Cond.instanceMethod yX3_clear ∈ wsL_law := wc_26 _ (List.mem_of_getElem? (i := 9) rfl)
theorem wq_26_10 : Cond.selects RX3 yX3_clear yX3_clear ∈ wsL_law := wc_26 _ (List.mem_of_getElem? (i := 10) rfl)
theorem wq_26_11 : Cond.code yX3_clear cX3_clear 2 (some .int) ∈ wsL_law := wc_26 _ (List.mem_of_getElem? (i := 11) rfl)
theorem wq_26_12 : Cond.methodLink RL 95 yX7_wipe ∈ wsL_law := wc_26 _ (List.mem_of_getElem? (i := 12) rfl)
theorem wq_26_13 : Cond.instanceMethod yX7_wipe ∈ wsL_law := wc_26 _ (List.mem_of_getElem? (i := 13) rfl)
theorem wq_26_14 : Cond.selects RX7 yX7_wipe yX7_wipe ∈ wsL_law := wc_26 _ (List.mem_of_getElem? (i := 14) rfl)
theorem wq_26_15 : Cond.code yX7_wipe cX7_wipe 2 (some .int) ∈ wsL_law := wc_26 _ (List.mem_of_getElem? (i := 15) rfl)
theorem wq_26_16 : Cond.methodLink RL 96 yX6_fault ∈ wsL_law := wc_26 _ (List.mem_of_getElem? (i := 16) rfl)
theorem wq_26_17 : Cond.instanceMethod yX6_fault ∈ wsL_law := wc_26 _ (List.mem_of_getElem? (i := 17) rfl)
theorem wq_26_18 : Cond.selects RX6 yX6_fault yX6_fault ∈ wsL_law := wc_26 _ (List.mem_of_getElem? (i := 18) rfl)
theorem wq_26_19 : Cond.code yX6_fault cX6_fault 1 (some .int) ∈ wsL_law := wc_26 _ (List.mem_of_getElem? (i := 19) rfl)
theorem wq_26_20 : Cond.methodLink RX6 177 yX3_findFault ∈ wsL_law := wc_26 _ (List.mem_of_getElem? (i := 20) rfl)
theorem wq_26_21 : Cond.instanceMethod yX3_findFault ∈ wsL_law := wc_26 _ (List.mem_of_getElem? (i := 21) rfl)
theorem wq_26_22 : Cond.selects RX3 yX3_findFault yX3_findFault ∈ wsL_law := wc_26 _ (List.mem_of_getElem? (i := 22) rfl)
theorem wq_26_23 : Cond.code yX3_findFault cX3_findFault 3 (some .int) ∈ wsL_law := wc_26 _ (List.mem_of_getElem? (i := 23) rfl)
theorem wq_27_0 : Cond.fieldLink RX3 40 "GaugeColumns$Pad" "cursor" "I" ∈ wsL_law := wc_27 _ (List.mem_of_getElem? (i := 0) rfl)
theorem wq_27_1 : Cond.methodLink RX3 33 yX3_rewind ∈ wsL_law := wc_27 _ (List.mem_of_getElem? (i := 1) rfl)
theorem wq_27_2 : Cond.instanceMethod yX3_rewind ∈ wsL_law := wc_27 _ (List.mem_of_getElem? (i := 2) rfl)
theorem wq_27_3 : Cond.selects RX3 yX3_rewind yX3_rewind ∈ wsL_law := wc_27 _ (List.mem_of_getElem? (i := 3) rfl)
theorem wq_27_4 : Cond.code yX3_rewind cX3_rewind 1 none ∈ wsL_law := wc_27 _ (List.mem_of_getElem? (i := 4) rfl)
theorem wq_27_5 : Cond.methodLink RX3 36 yX3_nextOrder ∈ wsL_law := wc_27 _ (List.mem_of_getElem? (i := 5) rfl)
theorem wq_27_6 : Cond.instanceMethod yX3_nextOrder ∈ wsL_law := wc_27 _ (List.mem_of_getElem? (i := 6) rfl)
theorem wq_27_7 : Cond.selects RX3 yX3_nextOrder yX3_nextOrder ∈ wsL_law := wc_27 _ (List.mem_of_getElem? (i := 7) rfl)
theorem wq_27_8 : Cond.code yX3_nextOrder cX3_nextOrder 1 (some .boolean) ∈ wsL_law := wc_27 _ (List.mem_of_getElem? (i := 8) rfl)
theorem wq_27_9 : Cond.fieldLink RX3 51 "GaugeColumns$Pad" "kind" "I" ∈ wsL_law := wc_27 _ (List.mem_of_getElem? (i := 9) rfl)
theorem wq_27_10 : Cond.methodLink RX3 43 yX3_pass ∈ wsL_law := wc_27 _ (List.mem_of_getElem? (i := 10) rfl)
theorem wq_27_11 : Cond.instanceMethod yX3_pass ∈ wsL_law := wc_27 _ (List.mem_of_getElem? (i := 11) rfl)
theorem wq_27_12 : Cond.selects RX3 yX3_pass yX3_pass ∈ wsL_law := wc_27 _ (List.mem_of_getElem? (i := 12) rfl)
theorem wq_27_13 : Cond.code yX3_pass cX3_pass 2 (some .boolean) ∈ wsL_law := wc_27 _ (List.mem_of_getElem? (i := 13) rfl)
theorem wq_27_14 : Cond.methodLink RX3 47 yX3_signAt ∈ wsL_law := wc_27 _ (List.mem_of_getElem? (i := 14) rfl)
theorem wq_27_15 : Cond.instanceMethod yX3_signAt ∈ wsL_law := wc_27 _ (List.mem_of_getElem? (i := 15) rfl)
theorem wq_27_16 : Cond.selects RX3 yX3_signAt yX3_signAt ∈ wsL_law := wc_27 _ (List.mem_of_getElem? (i := 16) rfl)
theorem wq_27_17 : Cond.code yX3_signAt cX3_signAt 2 (some .int) ∈ wsL_law := wc_27 _ (List.mem_of_getElem? (i := 17) rfl)
theorem wq_27_18 : Cond.methodLink RX3 54 yX3_readNumber ∈ wsL_law := wc_27 _ (List.mem_of_getElem? (i := 18) rfl)
theorem wq_27_19 : Cond.instanceMethod yX3_readNumber ∈ wsL_law := wc_27 _ (List.mem_of_getElem? (i := 19) rfl)
theorem wq_27_20 : Cond.selects RX3 yX3_readNumber yX3_readNumber ∈ wsL_law := wc_27 _ (List.mem_of_getElem? (i := 20) rfl)
theorem wq_27_21 : Cond.code yX3_readNumber cX3_readNumber 4 (some .boolean) ∈ wsL_law := wc_27 _ (List.mem_of_getElem? (i := 21) rfl)
theorem wq_27_22 : Cond.methodLink RX3 63 yX3_isDigit ∈ wsL_law := wc_27 _ (List.mem_of_getElem? (i := 22) rfl)
theorem wq_27_23 : Cond.static yX3_isDigit ∈ wsL_law := wc_27 _ (List.mem_of_getElem? (i := 23) rfl)
theorem wq_28_0 : Cond.code yX3_isDigit cX3_isDigit 1 (some .boolean) ∈ wsL_law := wc_28 _ (List.mem_of_getElem? (i := 0) rfl)
theorem wq_28_1 : Cond.methodLink RX3 57 yX3_readDigit ∈ wsL_law := wc_28 _ (List.mem_of_getElem? (i := 1) rfl)
theorem wq_28_2 : Cond.instanceMethod yX3_readDigit ∈ wsL_law := wc_28 _ (List.mem_of_getElem? (i := 2) rfl)
theorem wq_28_3 : Cond.selects RX3 yX3_readDigit yX3_readDigit ∈ wsL_law := wc_28 _ (List.mem_of_getElem? (i := 3) rfl)
theorem wq_28_4 : Cond.code yX3_readDigit cX3_readDigit 2 (some .boolean) ∈ wsL_law := wc_28 _ (List.mem_of_getElem? (i := 4) rfl)
theorem wq_28_5 : Cond.methodLink RX3 60 yX3_readValue ∈ wsL_law := wc_28 _ (List.mem_of_getElem? (i := 5) rfl)
theorem wq_28_6 : Cond.instanceMethod yX3_readValue ∈ wsL_law := wc_28 _ (List.mem_of_getElem? (i := 6) rfl)
theorem wq_28_7 : Cond.selects RX3 yX3_readValue yX3_readValue ∈ wsL_law := wc_28 _ (List.mem_of_getElem? (i := 7) rfl)
theorem wq_28_8 : Cond.code yX3_readValue cX3_readValue 2 (some .boolean) ∈ wsL_law := wc_28 _ (List.mem_of_getElem? (i := 8) rfl)
theorem wq_28_9 : Cond.methodLink RL 99 yX7_fault ∈ wsL_law := wc_28 _ (List.mem_of_getElem? (i := 9) rfl)
theorem wq_28_10 : Cond.instanceMethod yX7_fault ∈ wsL_law := wc_28 _ (List.mem_of_getElem? (i := 10) rfl)
theorem wq_28_11 : Cond.selects RX7 yX7_fault yX7_fault ∈ wsL_law := wc_28 _ (List.mem_of_getElem? (i := 11) rfl)
theorem wq_28_12 : Cond.code yX7_fault cX7_fault 1 (some .int) ∈ wsL_law := wc_28 _ (List.mem_of_getElem? (i := 12) rfl)
theorem wq_28_13 : Cond.methodLink RX7 205 yX7_findFault ∈ wsL_law := wc_28 _ (List.mem_of_getElem? (i := 13) rfl)
theorem wq_28_14 : Cond.instanceMethod yX7_findFault ∈ wsL_law := wc_28 _ (List.mem_of_getElem? (i := 14) rfl)
theorem wq_28_15 : Cond.selects RX7 yX7_findFault yX7_findFault ∈ wsL_law := wc_28 _ (List.mem_of_getElem? (i := 15) rfl)
theorem wq_28_16 : Cond.code yX7_findFault cX7_findFault 1 (some .int) ∈ wsL_law := wc_28 _ (List.mem_of_getElem? (i := 16) rfl)
theorem wq_28_17 : Cond.fieldLink RX7 171 "GaugeColumnsModel" "at" "I" ∈ wsL_law := wc_28 _ (List.mem_of_getElem? (i := 17) rfl)
theorem wq_28_18 : Cond.methodLink RX7 202 yX7_readsOrder ∈ wsL_law := wc_28 _ (List.mem_of_getElem? (i := 18) rfl)
theorem wq_28_19 : Cond.instanceMethod yX7_readsOrder ∈ wsL_law := wc_28 _ (List.mem_of_getElem? (i := 19) rfl)
theorem wq_28_20 : Cond.selects RX7 yX7_readsOrder yX7_readsOrder ∈ wsL_law := wc_28 _ (List.mem_of_getElem? (i := 20) rfl)
theorem wq_28_21 : Cond.code yX7_readsOrder cX7_readsOrder 1 (some .boolean) ∈ wsL_law := wc_28 _ (List.mem_of_getElem? (i := 21) rfl)
theorem wq_28_22 : Cond.fieldLink RX7 195 "GaugeColumnsModel" "letter" "I" ∈ wsL_law := wc_28 _ (List.mem_of_getElem? (i := 22) rfl)
theorem wq_28_23 : Cond.fieldLink RX7 186 "GaugeColumnsModel" "first" "I" ∈ wsL_law := wc_28 _ (List.mem_of_getElem? (i := 23) rfl)
theorem wq_29_0 : Cond.methodLink RX7 174 yX7_character ∈ wsL_law := wc_29 _ (List.mem_of_getElem? (i := 0) rfl)
theorem wq_29_1 : Cond.instanceMethod yX7_character ∈ wsL_law := wc_29 _ (List.mem_of_getElem? (i := 1) rfl)
theorem wq_29_2 : Cond.selects RX7 yX7_character yX7_character ∈ wsL_law := wc_29 _ (List.mem_of_getElem? (i := 2) rfl)
theorem wq_29_3 : Cond.code yX7_character cX7_character 2 (some .int) ∈ wsL_law := wc_29 _ (List.mem_of_getElem? (i := 3) rfl)
theorem wq_29_4 : Cond.methodLink RX7 183 yX7_takeNumber ∈ wsL_law := wc_29 _ (List.mem_of_getElem? (i := 4) rfl)
theorem wq_29_5 : Cond.instanceMethod yX7_takeNumber ∈ wsL_law := wc_29 _ (List.mem_of_getElem? (i := 5) rfl)
theorem wq_29_6 : Cond.selects RX7 yX7_takeNumber yX7_takeNumber ∈ wsL_law := wc_29 _ (List.mem_of_getElem? (i := 6) rfl)
theorem wq_29_7 : Cond.code yX7_takeNumber cX7_takeNumber 2 (some .int) ∈ wsL_law := wc_29 _ (List.mem_of_getElem? (i := 7) rfl)
theorem wq_29_8 : Cond.methodLink RX7 177 yX7_takeDigit ∈ wsL_law := wc_29 _ (List.mem_of_getElem? (i := 8) rfl)
theorem wq_29_9 : Cond.instanceMethod yX7_takeDigit ∈ wsL_law := wc_29 _ (List.mem_of_getElem? (i := 9) rfl)
theorem wq_29_10 : Cond.selects RX7 yX7_takeDigit yX7_takeDigit ∈ wsL_law := wc_29 _ (List.mem_of_getElem? (i := 10) rfl)
theorem wq_29_11 : Cond.code yX7_takeDigit cX7_takeDigit 2 (some .int) ∈ wsL_law := wc_29 _ (List.mem_of_getElem? (i := 11) rfl)
theorem wq_29_12 : Cond.methodLink RX7 198 yX7_readsGauge ∈ wsL_law := wc_29 _ (List.mem_of_getElem? (i := 12) rfl)
theorem wq_29_13 : Cond.instanceMethod yX7_readsGauge ∈ wsL_law := wc_29 _ (List.mem_of_getElem? (i := 13) rfl)
theorem wq_29_14 : Cond.selects RX7 yX7_readsGauge yX7_readsGauge ∈ wsL_law := wc_29 _ (List.mem_of_getElem? (i := 14) rfl)
theorem wq_29_15 : Cond.code yX7_readsGauge cX7_readsGauge 3 (some .boolean) ∈ wsL_law := wc_29 _ (List.mem_of_getElem? (i := 15) rfl)
theorem wq_29_16 : Cond.fieldLink RX7 189 "GaugeColumnsModel" "second" "I" ∈ wsL_law := wc_29 _ (List.mem_of_getElem? (i := 16) rfl)
theorem wq_29_17 : Cond.fieldLink RX7 192 "GaugeColumnsModel" "third" "I" ∈ wsL_law := wc_29 _ (List.mem_of_getElem? (i := 17) rfl)
theorem wq_29_18 : Cond.methodLink RX7 180 yX7_isNext ∈ wsL_law := wc_29 _ (List.mem_of_getElem? (i := 18) rfl)
theorem wq_29_19 : Cond.instanceMethod yX7_isNext ∈ wsL_law := wc_29 _ (List.mem_of_getElem? (i := 19) rfl)
theorem wq_29_20 : Cond.selects RX7 yX7_isNext yX7_isNext ∈ wsL_law := wc_29 _ (List.mem_of_getElem? (i := 20) rfl)
theorem wq_29_21 : Cond.code yX7_isNext cX7_isNext 3 (some .boolean) ∈ wsL_law := wc_29 _ (List.mem_of_getElem? (i := 21) rfl)
theorem wq_29_22 : Cond.methodLink RL 100 yX6_carryOut ∈ wsL_law := wc_29 _ (List.mem_of_getElem? (i := 22) rfl)
theorem wq_29_23 : Cond.instanceMethod yX6_carryOut ∈ wsL_law := wc_29 _ (List.mem_of_getElem? (i := 23) rfl)
theorem wq_30_0 : Cond.selects RX6 yX6_carryOut yX6_carryOut ∈ wsL_law := wc_30 _ (List.mem_of_getElem? (i := 0) rfl)
theorem wq_30_1 : Cond.code yX6_carryOut cX6_carryOut 2 (some .int) ∈ wsL_law := wc_30 _ (List.mem_of_getElem? (i := 1) rfl)
theorem wq_30_2 : Cond.methodLink RX6 180 yX3_rewind ∈ wsL_law := wc_30 _ (List.mem_of_getElem? (i := 2) rfl)
theorem wq_30_3 : Cond.methodLink RX6 183 yX3_nextOrder ∈ wsL_law := wc_30 _ (List.mem_of_getElem? (i := 3) rfl)
theorem wq_30_4 : Cond.methodLink RX6 187 yX6_carryOutOrder ∈ wsL_law := wc_30 _ (List.mem_of_getElem? (i := 4) rfl)
theorem wq_30_5 : Cond.instanceMethod yX6_carryOutOrder ∈ wsL_law := wc_30 _ (List.mem_of_getElem? (i := 5) rfl)
theorem wq_30_6 : Cond.selects RX6 yX6_carryOutOrder yX6_carryOutOrder ∈ wsL_law := wc_30 _ (List.mem_of_getElem? (i := 6) rfl)
theorem wq_30_7 : Cond.code yX6_carryOutOrder cX6_carryOutOrder 2 (some .int) ∈ wsL_law := wc_30 _ (List.mem_of_getElem? (i := 7) rfl)
theorem wq_30_8 : Cond.fieldLink RX6 190 "GaugeColumns$Pad" "numbers" "[I" ∈ wsL_law := wc_30 _ (List.mem_of_getElem? (i := 8) rfl)
theorem wq_30_9 : Cond.fieldLink RX6 193 "GaugeColumns$Pad" "kind" "I" ∈ wsL_law := wc_30 _ (List.mem_of_getElem? (i := 9) rfl)
theorem wq_30_10 : Cond.methodLink RL 103 yX7_carryOut ∈ wsL_law := wc_30 _ (List.mem_of_getElem? (i := 10) rfl)
theorem wq_30_11 : Cond.instanceMethod yX7_carryOut ∈ wsL_law := wc_30 _ (List.mem_of_getElem? (i := 11) rfl)
theorem wq_30_12 : Cond.selects RX7 yX7_carryOut yX7_carryOut ∈ wsL_law := wc_30 _ (List.mem_of_getElem? (i := 12) rfl)
theorem wq_30_13 : Cond.code yX7_carryOut cX7_carryOut 3 (some .int) ∈ wsL_law := wc_30 _ (List.mem_of_getElem? (i := 13) rfl)
theorem wq_30_14 : Cond.methodLink RX7 208 yX7_whyNotDone ∈ wsL_law := wc_30 _ (List.mem_of_getElem? (i := 14) rfl)
theorem wq_30_15 : Cond.instanceMethod yX7_whyNotDone ∈ wsL_law := wc_30 _ (List.mem_of_getElem? (i := 15) rfl)
theorem wq_30_16 : Cond.selects RX7 yX7_whyNotDone yX7_whyNotDone ∈ wsL_law := wc_30 _ (List.mem_of_getElem? (i := 16) rfl)
theorem wq_30_17 : Cond.code yX7_whyNotDone cX7_whyNotDone 1 (some .int) ∈ wsL_law := wc_30 _ (List.mem_of_getElem? (i := 17) rfl)
theorem wq_30_18 : Cond.methodLink RX7 211 yX7_does ∈ wsL_law := wc_30 _ (List.mem_of_getElem? (i := 18) rfl)
theorem wq_30_19 : Cond.instanceMethod yX7_does ∈ wsL_law := wc_30 _ (List.mem_of_getElem? (i := 19) rfl)
theorem wq_30_20 : Cond.selects RX7 yX7_does yX7_does ∈ wsL_law := wc_30 _ (List.mem_of_getElem? (i := 20) rfl)
theorem wq_30_21 : Cond.code yX7_does cX7_does 1 none ∈ wsL_law := wc_30 _ (List.mem_of_getElem? (i := 21) rfl)
theorem wq_30_22 : Cond.methodLink RL 104 yX6_undo ∈ wsL_law := wc_30 _ (List.mem_of_getElem? (i := 22) rfl)
theorem wq_30_23 : Cond.instanceMethod yX6_undo ∈ wsL_law := wc_30 _ (List.mem_of_getElem? (i := 23) rfl)
theorem wq_31_0 : Cond.selects RX6 yX6_undo yX6_undo ∈ wsL_law := wc_31 _ (List.mem_of_getElem? (i := 0) rfl)
theorem wq_31_1 : Cond.code yX6_undo cX6_undo 1 (some .int) ∈ wsL_law := wc_31 _ (List.mem_of_getElem? (i := 1) rfl)
theorem wq_31_2 : Cond.methodLink RX6 196 yX2_stepBack ∈ wsL_law := wc_31 _ (List.mem_of_getElem? (i := 2) rfl)
theorem wq_31_3 : Cond.instanceMethod yX2_stepBack ∈ wsL_law := wc_31 _ (List.mem_of_getElem? (i := 3) rfl)
theorem wq_31_4 : Cond.selects RX2 yX2_stepBack yX2_stepBack ∈ wsL_law := wc_31 _ (List.mem_of_getElem? (i := 4) rfl)
theorem wq_31_5 : Cond.code yX2_stepBack cX2_stepBack 2 (some .int) ∈ wsL_law := wc_31 _ (List.mem_of_getElem? (i := 5) rfl)
theorem wq_31_6 : Cond.methodLink RL 107 yX7_undo ∈ wsL_law := wc_31 _ (List.mem_of_getElem? (i := 6) rfl)
theorem wq_31_7 : Cond.instanceMethod yX7_undo ∈ wsL_law := wc_31 _ (List.mem_of_getElem? (i := 7) rfl)
theorem wq_31_8 : Cond.selects RX7 yX7_undo yX7_undo ∈ wsL_law := wc_31 _ (List.mem_of_getElem? (i := 8) rfl)
theorem wq_31_9 : Cond.code yX7_undo cX7_undo 1 (some .int) ∈ wsL_law := wc_31 _ (List.mem_of_getElem? (i := 9) rfl)
theorem wq_31_10 : Cond.methodLink RL 108 yX6_save ∈ wsL_law := wc_31 _ (List.mem_of_getElem? (i := 10) rfl)
theorem wq_31_11 : Cond.instanceMethod yX6_save ∈ wsL_law := wc_31 _ (List.mem_of_getElem? (i := 11) rfl)
theorem wq_31_12 : Cond.selects RX6 yX6_save yX6_save ∈ wsL_law := wc_31 _ (List.mem_of_getElem? (i := 12) rfl)
theorem wq_31_13 : Cond.code yX6_save cX6_save 2 (some .int) ∈ wsL_law := wc_31 _ (List.mem_of_getElem? (i := 13) rfl)
theorem wq_31_14 : Cond.methodLink RX6 200 yX4_copyFrom ∈ wsL_law := wc_31 _ (List.mem_of_getElem? (i := 14) rfl)
theorem wq_31_15 : Cond.methodLink RL 111 yX7_save ∈ wsL_law := wc_31 _ (List.mem_of_getElem? (i := 15) rfl)
theorem wq_31_16 : Cond.instanceMethod yX7_save ∈ wsL_law := wc_31 _ (List.mem_of_getElem? (i := 16) rfl)
theorem wq_31_17 : Cond.selects RX7 yX7_save yX7_save ∈ wsL_law := wc_31 _ (List.mem_of_getElem? (i := 17) rfl)
theorem wq_31_18 : Cond.code yX7_save cX7_save 2 (some .int) ∈ wsL_law := wc_31 _ (List.mem_of_getElem? (i := 18) rfl)
theorem wq_31_19 : Cond.methodLink RL 112 yX6_restore ∈ wsL_law := wc_31 _ (List.mem_of_getElem? (i := 19) rfl)
theorem wq_31_20 : Cond.instanceMethod yX6_restore ∈ wsL_law := wc_31 _ (List.mem_of_getElem? (i := 20) rfl)
theorem wq_31_21 : Cond.selects RX6 yX6_restore yX6_restore ∈ wsL_law := wc_31 _ (List.mem_of_getElem? (i := 21) rfl)
theorem wq_31_22 : Cond.code yX6_restore cX6_restore 2 (some .int) ∈ wsL_law := wc_31 _ (List.mem_of_getElem? (i := 22) rfl)
theorem wq_31_23 : Cond.methodLink RL 115 yX7_restore ∈ wsL_law := wc_31 _ (List.mem_of_getElem? (i := 23) rfl)
theorem wq_32_0 : Cond.instanceMethod yX7_restore ∈ wsL_law := wc_32 _ (List.mem_of_getElem? (i := 0) rfl)
theorem wq_32_1 : Cond.selects RX7 yX7_restore yX7_restore ∈ wsL_law := wc_32 _ (List.mem_of_getElem? (i := 1) rfl)
theorem wq_32_2 : Cond.code yX7_restore cX7_restore 2 (some .int) ∈ wsL_law := wc_32 _ (List.mem_of_getElem? (i := 2) rfl)
set_option maxRecDepth 100000 in
theorem w0_good : wsL_law.all goodWord = true := by decide +kernel
theorem w0_mem {w : Cond} (h : w ∈ wsL_law) : ∀ x : List Cond, GoodIn wsL_law x → GoodIn wsL_law (w :: x) := fun x hx u hu => by
  rcases List.mem_cons.mp hu with e | e
  · subst e; exact goodIn_sub (big := wsL_law) (ws := wsL_law) (fun _ h => h) w0_good u h
  · exact hx u e
theorem w0_all : GoodIn wsL_law wsL_law := goodIn_sub (fun _ h => h) w0_good
theorem w0_V {own C : String} {idx mL : Nat} {y : MethodName} {bytes : ByteArray} {rt : Option FieldType} (h1 : Cond.methodLink own idx y ∈ wsL_law) (h2 : Cond.instanceMethod y ∈ wsL_law) (h3 : Cond.selects C y y ∈ wsL_law) (h4 : Cond.initialized C ∈ wsL_law) (h5 : Cond.code y bytes mL rt ∈ wsL_law) : GoodIn wsL_law (wsV own idx C y (Cond.code y bytes mL rt :: wsL_law)) :=
  w0_mem h1 _ (w0_mem h2 _ (w0_mem h3 _ (w0_mem h4 _ (w0_mem h5 _ w0_all))))
theorem w0_S {own : String} {idx mL : Nat} {y : MethodName} {bytes : ByteArray} {rt : Option FieldType} (h1 : Cond.methodLink own idx y ∈ wsL_law) (h2 : Cond.static y ∈ wsL_law) (h4 : Cond.initialized y.cls ∈ wsL_law) (h5 : Cond.code y bytes mL rt ∈ wsL_law) : GoodIn wsL_law (va_wsS own idx y (Cond.code y bytes mL rt :: wsL_law)) :=
  w0_mem h1 _ (w0_mem h2 _ (w0_mem h4 _ (w0_mem h5 _ w0_all)))
theorem w0_C {y : MethodName} {mL : Nat} {bytes : ByteArray} {rt : Option FieldType} (h5 : Cond.code y bytes mL rt ∈ wsL_law) : GoodIn wsL_law (Cond.code y bytes mL rt :: wsL_law) := w0_mem h5 _ w0_all
end
section
/-! whole numbers for ints; a memory of whole numbers and references; a method's state by its pc, locals, stack, memory -/
def zI (x : Int) : Int32 := Int32.ofInt x
theorem zI_of (x : Int32) : zI x.toInt = x := Int32.ofInt_toInt x
theorem zI_int {x : Int} (h : -2147483648 ≤ x ∧ x < 2147483648) : (zI x).toInt = x := by
  unfold zI
  exact Int32.toInt_ofInt_of_le (by simpa using h.1) (by simpa using h.2)
theorem zI_rng (x : Int32) : -2147483648 ≤ x.toInt ∧ x.toInt < 2147483648 := ⟨by have := Int32.le_toInt x; simpa using this, by have := Int32.toInt_lt x; simpa using this⟩
theorem zI_add (a b : Int) : zI a + zI b = zI (a + b) := (Int32.ofInt_add a b).symm
theorem zI_sub (a b : Int) : zI a - zI b = zI (a - b) := (Int32.ofInt_sub a b).symm
theorem zI_mul (a b : Int) : zI a * zI b = zI (a * b) := (Int32.ofInt_mul a b).symm
theorem zI_neg (a : Int) : - zI a = zI (-a) := (Int32.ofInt_neg a).symm
theorem zI_nI (n : Nat) : zI (n : Int) = nI n := rfl
theorem zI_lt {a b : Int} (ha : -2147483648 ≤ a ∧ a < 2147483648) (hb : -2147483648 ≤ b ∧ b < 2147483648) : zI a < zI b ↔ a < b := by
  rw [Int32.lt_iff_toInt_lt, zI_int ha, zI_int hb]
theorem zI_le {a b : Int} (ha : -2147483648 ≤ a ∧ a < 2147483648) (hb : -2147483648 ≤ b ∧ b < 2147483648) : zI a ≤ zI b ↔ a ≤ b := by
  rw [Int32.le_iff_toInt_le, zI_int ha, zI_int hb]
theorem zI_eq {a b : Int} (ha : -2147483648 ≤ a ∧ a < 2147483648) (hb : -2147483648 ≤ b ∧ b < 2147483648) : zI a = zI b ↔ a = b := by
  rw [← Int32.toInt_inj, zI_int ha, zI_int hb]
theorem zI_0 : (0 : Int32) = zI 0 := by decide +kernel
theorem zI_div {a b : Int} (ha : 0 ≤ a ∧ a < 2147483648) (hb : 0 < b ∧ b < 2147483648) : zI a / zI b = zI (a / b) := by
  obtain ⟨n, rfl⟩ := Int.eq_ofNat_of_zero_le ha.1
  obtain ⟨k, rfl⟩ := Int.eq_ofNat_of_zero_le (Int.le_of_lt hb.1)
  rw [← Int.natCast_ediv, zI_nI, zI_nI, zI_nI]
  exact pk_div (by omega) (by omega) (by omega)
theorem zI_rem {a b : Int} (ha : 0 ≤ a ∧ a < 2147483648) (hb : 0 < b ∧ b < 2147483648) : zI a - zI a / zI b * zI b = zI (a % b) := by
  rw [zI_div ha hb, zI_mul, zI_sub]
  congr 1
  have := Int.mul_ediv_add_emod a b
  rw [Int.mul_comm] at this
  omega
theorem zI_idx {x : Int} {n : Nat} (h0 : 0 ≤ x) (h : x < (n : Int)) (hn : n < 2147483648) : vp_in (zI x) n ∧ (zI x).toNatClampNeg = x.toNat := by
  obtain ⟨k, rfl⟩ := Int.eq_ofNat_of_zero_le h0
  rw [zI_nI]
  exact ⟨vp_in_nI (by omega) (by omega), by rw [nI_clamp (by omega)]; rfl⟩
theorem zI_clamp {x : Int} (h0 : 0 ≤ x) (h : x < 2147483648) : (zI x).toNatClampNeg = x.toNat ∧ ¬ zI x < 0 := by
  obtain ⟨k, rfl⟩ := Int.eq_ofNat_of_zero_le h0
  rw [zI_nI]
  exact ⟨by rw [nI_clamp (by omega)]; rfl, nI_pos (by omega)⟩
abbrev MI : Type := Nat → Nat → Int
abbrev MR : Type := Nat → Nat → Option Nat
def u2 {α : Type} (f : Nat → Nat → α) (a k : Nat) (v : α) : Nat → Nat → α := fun b j => if b = a ∧ j = k then v else f b j
theorem u2_s {α : Type} (f : Nat → Nat → α) (a k : Nat) (v : α) : u2 f a k v a k = v := if_pos ⟨rfl, rfl⟩
theorem u2_a {α : Type} {f : Nat → Nat → α} {a k b j : Nat} {v : α} (h : b ≠ a) : u2 f a k v b j = f b j := if_neg fun q => h q.1
theorem u2_k {α : Type} {f : Nat → Nat → α} {a k b j : Nat} {v : α} (h : j ≠ k) : u2 f a k v b j = f b j := if_neg fun q => h q.2
theorem u2_row {α : Type} {f : Nat → Nat → α} {a k b : Nat} {v : α} (h : b ≠ a) : u2 f a k v b = f b := funext fun _ => u2_a h
def zty : Nat → Nat → FieldType
  | 0 => tyX0
  | 1 => tyX1
  | 2 => tyX2
  | 3 => tyX3
  | 4 => tyX4
  | 5 => tyX5
  | 6 => tyX6
  | _ => tyX7
def znf : Nat → Nat
  | 0 => 3
  | 1 => 5
  | 2 => 3
  | 3 => 5
  | 4 => 6
  | 5 => 7
  | 6 => 5
  | _ => 16
def zfv (ty : FieldType) (x : Int) (r : Option Nat) : Value := match ty with
  | .int => .int (zI x)
  | _ => va_rf r
def zfs (c : Nat) (I : MI) (R : MR) (a : Nat) : List Value := (List.range (znf c)).map (fun k => zfv (zty c k) (I a k) (R a k))
def zat (ct : Nat → ClassId) (K N : Nat → Nat) (I : MI) (R : MR) (a : Nat) : va_E :=
  if K a < 8 then .inr (K a, zfs (K a) I R a)
  else if K a = 8 then .inl (ct 0, N a, .inl (fun j => zI (I a j)))
  else if K a = 9 then .inl (ct 1, N a, .inl (fun j => zI (I a j)))
  else if K a = 10 then .inl (ct 2, N a, .inr (.inr (.inr (.inr (R a)))))
  else .inl (ct 3, N a, .inr (.inr (.inr (.inr (R a)))))
def ztys (ct : Nat → ClassId) : List (ClassId × FieldType) := [(ct 0, .char), (ct 1, .int), (ct 2, .object RX1), (ct 3, .object RX4)]
abbrev vwCl : List vw_C := [(RX0, TX0, 3), (RX1, TX1, 5), (RX2, TX2, 3), (RX3, TX3, 5), (RX4, TX4, 6), (RX5, TX5, 7), (RX6, TX6, 5), (RX7, TX7, 16)]
/-- what all methods of a run share: the classes, the arrays' classes, the heap of the law's start -/
abbrev GG : Type := va_G × (Nat → ClassId) × Heap
def Wh (G : GG) (z : Nat) (K N : Nat → Nat) (I : MI) (R : MR) (H : Heap) : Prop :=
  H.size = z ∧ G.2.2.size ≤ z ∧ (∀ q : Nat, q < G.2.2.size → H[q]? = G.2.2[q]?) ∧ ∀ a : Nat, G.2.2.size ≤ a → a < z → va_at G.1 vwCl (a, zat G.2.1 K N I R a) H
/-- the static arrays of GaugeColumns -/
def zsta (U : State) (H0 : Heap) (n : String) (f : Nat → Int) : Prop := ∃ t : Nat, va_Z RX6 n "[I" (.ref t) (fun q => H0.size ≤ q) U H0 ∧ ∃ cell : Cell, H0[t]? = some cell ∧ cell.vm = .none ∧ U.isArrayOf cell .int ∧ U.vm.findClass "[I" = some cell.cls ∧ cell.slots.size = 3 ∧ ∀ j : Nat, j < 3 → cell.slots[j]? = some (.int (zI (f j)))
def zF0 : Nat → Int := fun j => if j = 0 then 4 else if j = 1 then 10 else 50
def zF1 : Nat → Int := fun j => if j = 0 then 0 else if j = 1 then 1 else 0
def zF2 : Nat → Int := fun j => if j = 0 then 9 else if j = 1 then 99 else 999
/-- the words that a nest mate's links need -/
def znwF : List (String × Nat × String × String × String × String) := [(RX4, 9, RX6, "AT_FIRST", "[I", RX6), (RX4, 53, RX6, "LEAST", "[I", RX6), (RX4, 56, RX6, "MOST", "[I", RX6)]
def znwM : List (String × Nat × MethodName × String) := [(RX6, 29, yX5_init, RX6), (RX6, 36, yX3_init, RX6), (RX1, 34, yX6_dividedDown, RX6), (RX1, 38, yX6_dividedRounded, RX6), (RX4, 113, yX6_weightOf, RX6), (RX4, 117, yX6_dividedDown, RX6), (RX4, 32, yX1_init, RX6), (RX5, 17, yX1_init, RX6)]
def Wv (G : GG) (U : State) : Prop :=
  va_K G.1 vwCl (ztys G.2.1) U ∧ (zsta U G.2.2 "AT_FIRST" zF0 ∧ zsta U G.2.2 "LEAST" zF1 ∧ zsta U G.2.2 "MOST" zF2) ∧
  (∀ w ∈ znwF, va_Nw (.fieldLinkNest w.1 w.2.1 w.2.2.1 w.2.2.2.1 w.2.2.2.2.1 w.2.2.2.2.2) U) ∧ (∀ w ∈ znwM, va_Nw (.methodLinkNest w.1 w.2.1 w.2.2.1 w.2.2.2) U) ∧
  va_Nw (.castable "[I" "java/lang/Cloneable") U ∧ va_AO RX1 U ∧ va_AO RX4 U
theorem zsta_moved {u U : State} {H0 : Heap} {n : String} {f : Nat → Int} (hvm : u.vm.Alike U.vm) (h : zsta u H0 n f) : zsta U H0 n f := by
  obtain ⟨t, h1, cell, h2, h3, h4, h5, h6⟩ := h
  exact ⟨t, h1.moved hvm, cell, h2, h3, State.isArrayOf_alike hvm h4, by rw [hvm.findClass]; exact h5, h6⟩
theorem Wv.warm {G : GG} {s U : State} (hW : s.WarmedH U.vm) (h : Wv G s) : Wv G U := by
  obtain ⟨h1, ⟨a1, a2, a3⟩, h2, h3, h4, h5, h6⟩ := h
  exact ⟨h1.moved hW.alike, ⟨zsta_moved hW.alike a1, zsta_moved hW.alike a2, zsta_moved hW.alike a3⟩, fun w hw => (h2 w hw).warmF hW, fun w hw => (h3 w hw).warmM hW, h4.warmC hW, h5.moved hW.alike, h6.moved hW.alike⟩
theorem Wv.calling {G : GG} {U : State} {g : JFrame} {mk : MethodId} {a : Array Value} (h : Wv G U) : Wv G (U.calling g mk a) := by
  obtain ⟨h1, ⟨a1, a2, a3⟩, h2, h3, h4, h5, h6⟩ := h
  have hA : U.vm.Alike (U.calling g mk a).vm := Vm.Alike.refl U.vm
  exact ⟨h1.moved hA, ⟨zsta_moved hA a1, zsta_moved hA a2, zsta_moved hA a3⟩, fun w hw => (h2 w hw).same rfl rfl, fun w hw => (h3 w hw).same rfl rfl, h4.same rfl rfl, h5.moved hA, h6.moved hA⟩
def zK (G : GG) (z : Nat) (K : Nat → Nat) (a c : Nat) : Prop := G.2.2.size ≤ a ∧ a < z ∧ K a = c
theorem zat_o {ct : Nat → ClassId} {K N : Nat → Nat} {I : MI} {R : MR} {a c : Nat} (h : K a = c) (hc : c < 8) : zat ct K N I R a = .inr (c, zfs c I R a) := by
  subst h; exact if_pos hc
theorem zat_c {ct : Nat → ClassId} {K N : Nat → Nat} {I : MI} {R : MR} {a : Nat} (h : K a = 8) : zat ct K N I R a = .inl (ct 0, N a, .inl (fun j => zI (I a j))) := by
  simp [zat, h]
theorem zat_i {ct : Nat → ClassId} {K N : Nat → Nat} {I : MI} {R : MR} {a : Nat} (h : K a = 9) : zat ct K N I R a = .inl (ct 1, N a, .inl (fun j => zI (I a j))) := by
  simp [zat, h]
theorem zat_g {ct : Nat → ClassId} {K N : Nat → Nat} {I : MI} {R : MR} {a : Nat} (h : K a = 10) : zat ct K N I R a = .inl (ct 2, N a, .inr (.inr (.inr (.inr (R a))))) := by
  simp [zat, h]
theorem zat_t {ct : Nat → ClassId} {K N : Nat → Nat} {I : MI} {R : MR} {a : Nat} (h : K a = 11) : zat ct K N I R a = .inl (ct 3, N a, .inr (.inr (.inr (.inr (R a))))) := by
  simp [zat, h]
theorem zat_cong {ct : Nat → ClassId} {K N K' N' : Nat → Nat} {I I' : MI} {R R' : MR} {a : Nat} (hK : K' a = K a) (hN : N' a = N a) (h1 : I' a = I a) (h2 : R' a = R a) : zat ct K' N' I' R' a = zat ct K N I R a := by
  simp only [zat, zfs, hK, hN, h1, h2]
theorem zfs_get {c k : Nat} {I : MI} {R : MR} {a : Nat} (hk : k < znf c) : (zfs c I R a)[k]? = some (zfv (zty c k) (I a k) (R a k)) := by
  simp [zfs, List.getElem?_map, List.getElem?_range hk]
theorem zfs_len {c : Nat} {I : MI} {R : MR} {a : Nat} : (zfs c I R a).length = znf c := by simp [zfs]
theorem zfs_set {c k : Nat} {I I' : MI} {R R' : MR} {a : Nat} (hk : k < znf c) {v : Value} (hv : zfv (zty c k) (I' a k) (R' a k) = v) (ho : ∀ j, j ≠ k → I' a j = I a j ∧ R' a j = R a j) : (zfs c I R a).set k v = zfs c I' R' a := by
  apply List.ext_getElem?
  intro j
  rw [List.getElem?_set]
  by_cases hj : k = j
  · subst hj
    rw [if_pos rfl, zfs_len, if_pos hk, zfs_get hk, hv]
  · rw [if_neg hj]
    by_cases hl : j < znf c
    · rw [zfs_get hl, zfs_get hl, (ho j (Ne.symm hj)).1, (ho j (Ne.symm hj)).2]
    · rw [List.getElem?_eq_none (by rw [zfs_len]; omega), List.getElem?_eq_none (by rw [zfs_len]; omega)]
theorem va_P1 {D : va_G} {cl : List vw_C} {q : Nat × va_E} {H : Heap} (h : va_at D cl q H) : va_P D cl [q] H := by
  intro k x hx
  match k with
  | 0 => cases hx; exact h
  | k + 1 => simp at hx
theorem Wh.upd {G : GG} {z : Nat} {K N : Nat → Nat} {I I' : MI} {R R' : MR} {H H1 : Heap} {a : Nat} (h : Wh G z K N I R H) (ha : G.2.2.size ≤ a) (hz : H1.size = H.size) (oq : ∀ q : Nat, q ≠ a → H1[q]? = H[q]?) (hat : va_at G.1 vwCl (a, zat G.2.1 K N I' R' a) H1) (hI : ∀ b, b ≠ a → I' b = I b ∧ R' b = R b) : Wh G z K N I' R' H1 := by
  refine ⟨by rw [hz]; exact h.1, h.2.1, fun q hq => by rw [oq q (by omega)]; exact h.2.2.1 q hq, fun b h1 h2 => ?_⟩
  by_cases hb : b = a
  · subst hb; exact hat
  · rw [zat_cong (K := K) (N := N) (I := I) (R := R) rfl rfl (hI b hb).1 (hI b hb).2]
    exact (h.2.2.2 b h1 h2).kept (oq b hb)
theorem Wh.push {G : GG} {z : Nat} {K N K' N' : Nat → Nat} {I I' : MI} {R R' : MR} {H H1 : Heap} (h : Wh G z K N I R H) (hz : H1.size = H.size + 1) (oq : ∀ q : Nat, q < H.size → H1[q]? = H[q]?) (hat : va_at G.1 vwCl (z, zat G.2.1 K' N' I' R' z) H1) (hI : ∀ b, b < z → K' b = K b ∧ N' b = N b ∧ I' b = I b ∧ R' b = R b) : Wh G (z + 1) K' N' I' R' H1 := by
  obtain ⟨e, h1, h2, h3⟩ := h
  refine ⟨by omega, by omega, fun q hq => by rw [oq q (by omega)]; exact h2 q hq, fun b g1 g2 => ?_⟩
  by_cases hb : b = z
  · subst hb; exact hat
  · obtain ⟨i1, i2, i3, i4⟩ := hI b (by omega)
    rw [zat_cong (K := K) (N := N) (I := I) (R := R) i1 i2 i3 i4]
    exact (h3 b g1 (by omega)).kept (oq b (by omega))
/-- a method's contract -/
def Con (l : Launch) (G : GG) (y : MethodName) (ws : List Cond) (rm : Room) (mc ms : Nat) (av : List Value) (z : Nat) (K N : Nat → Nat) (I : MI) (R : MR) (P : Option Value → Nat → (Nat → Nat) → (Nat → Nat) → MI → MR → Prop) : Prop :=
  Met l y ws rm (va_Pc av (fun U => Wv G U ∧ Wh G z K N I R U.heap)) (fun _ _ oc t => ∃ (r : Option Value) (z' : Nat) (K' N' : Nat → Nat) (I' : MI) (R' : MR), oc = .returned r ∧ P r z' K' N' I' R' ∧ Wh G z' K' N' I' R' t.heap) mc ms (fun q => G.2.2.size ≤ q)
/-- the same, of a method that makes nothing and whose end is known -/
abbrev Cod (l : Launch) (G : GG) (y : MethodName) (ws : List Cond) (rm : Room) (av : List Value) (z : Nat) (K N : Nat → Nat) (I : MI) (R : MR) (r0 : Option Value) (I0 : MI) (R0 : MR) : Prop :=
  Con l G y ws rm 0 0 av z K N I R (fun r z' K' N' I' R' => r = r0 ∧ z' = z ∧ K' = K ∧ N' = N ∧ I' = I0 ∧ R' = R0)
def zpush : Option Value → List Value → List Value
  | none, s => s
  | some v, s => v :: s
def zst : List Value → List Value → List Value
  | [], r => r
  | v :: a, r => zst a (v :: r)
theorem zst_eq : ∀ (a r : List Value), zst a r = a.reverse ++ r
  | [], _ => rfl
  | v :: a, r => by rw [zst, zst_eq a, List.reverse_cons, List.append_assoc]; rfl
theorem zpush_eq (r : Option Value) (s : List Value) : zpush r s = r.toList ++ s := by cases r <;> rfl
def lvg : List (Nat × Value) → Nat → Option Value
  | [], _ => none
  | (j, v) :: r, i => bif Nat.beq j i then some v else lvg r i
def lvs : List (Nat × Value) → Nat → Value → List (Nat × Value)
  | [], i, v => [(i, v)]
  | (j, u) :: r, i, v => bif Nat.beq j i then (i, v) :: r else (j, u) :: lvs r i v
/-- the places are apart, and no long ends at one of them -/
def lvo : List (Nat × Value) → Nat → Bool
  | [], _ => true
  | (j, u) :: r, i => (bif Nat.beq (j + 1) i then (match u with | .long _ => false | .double _ => false | _ => true) else true) && lvo r i
def lvd : List (Nat × Value) → Bool
  | [] => true
  | (j, _) :: r => (r.all (fun q => !(Nat.beq q.1 j))) && lvd r
theorem lvg_mem : ∀ (lv : List (Nat × Value)) (i : Nat) (v : Value), lvg lv i = some v → (i, v) ∈ lv
  | [], _, _, h => by cases h
  | (j, u) :: r, i, v, h => by
    unfold lvg at h
    cases hb : Nat.beq j i with
    | true =>
      rw [hb] at h
      have e := Nat.eq_of_beq_eq_true hb
      simp only [cond_true, Option.some.injEq] at h
      subst e; subst h
      exact List.mem_cons_self
    | false =>
      rw [hb] at h
      exact List.mem_cons_of_mem _ (lvg_mem r i v h)
theorem lvg_at {ls : Array Slot} {nL : Nat} {lv : List (Nat × Value)} {i : Nat} {v : Value} (h : lv_has ls nL lv) (hg : lvg lv i = some v) : ls[i]? = some (.val v) := h.2.2 (i, v) (lvg_mem lv i v hg)
theorem lvs_mem : ∀ (lv : List (Nat × Value)) (i : Nat) (v : Value) (q : Nat × Value), lvd lv = true → q ∈ lvs lv i v → q = (i, v) ∨ (q ∈ lv ∧ q.1 ≠ i)
  | [], i, v, q, _, h => by
    rcases List.mem_cons.mp h with h | h
    · exact Or.inl h
    · cases h
  | (j, u) :: r, i, v, q, hd, h => by
    unfold lvd at hd
    rw [Bool.and_eq_true] at hd
    unfold lvs at h
    cases hb : Nat.beq j i with
    | true =>
      rw [hb] at h
      have e := Nat.eq_of_beq_eq_true hb
      subst e
      rcases List.mem_cons.mp h with h | h
      · exact Or.inl h
      · refine Or.inr ⟨List.mem_cons_of_mem _ h, fun e => ?_⟩
        have h2 := List.all_eq_true.mp hd.1 q h
        rw [e] at h2
        simp at h2
    | false =>
      rw [hb] at h
      rcases List.mem_cons.mp h with h | h
      · subst h
        refine Or.inr ⟨List.mem_cons_self, fun e => ?_⟩
        have e : j = i := e
        rw [e, Nat.beq_refl] at hb
        cases hb
      · rcases lvs_mem r i v q hd.2 h with h | h
        · exact Or.inl h
        · exact Or.inr ⟨List.mem_cons_of_mem _ h.1, h.2⟩
theorem lvo_mem : ∀ (lv : List (Nat × Value)) (i : Nat) (q : Nat × Value), lvo lv i = true → q ∈ lv → q.1 + 1 = i → ¬ q.2.category = 2
  | [], _, _, _, h, _ => by cases h
  | (j, u) :: r, i, q, ho, h, e => by
    unfold lvo at ho
    rw [Bool.and_eq_true] at ho
    rcases List.mem_cons.mp h with h | h
    · subst h
      have e : j + 1 = i := e
      have ho1 := ho.1
      rw [e, Nat.beq_refl] at ho1
      cases u <;> simp_all [Value.category]
    · exact lvo_mem r i q ho.2 h e
theorem lvs_has {ls' : Array Slot} {nL : Nat} {lv : List (Nat × Value)} {i : Nat} {v : Value} (hd : lvd lv = true) (ho : lvo lv i = true) (h : lv_has ls' nL ((i, v) :: lv.filter (fun q => !(q.1 == i) && !(q.1 + 1 == i && q.2.category == 2)))) : lv_has ls' nL (lvs lv i v) := by
  refine ⟨h.1, h.2.1, fun q hq => h.2.2 q ?_⟩
  rcases lvs_mem lv i v q hd hq with e | ⟨h1, h2⟩
  · rw [e]; exact List.mem_cons_self
  · refine List.mem_cons_of_mem _ (List.mem_filter.mpr ⟨h1, ?_⟩)
    have h3 : (q.1 == i) = false := by simpa using h2
    rw [h3]
    by_cases h4 : q.1 + 1 = i
    · have h5 := lvo_mem lv i q ho h1 h4
      simp [h5]
    · simp [h4]

def Cx (p : Program) (l : Launch) (e : Env) (Rm : Room) (s : State) (m : MethodId) (args : Array Value) (below : List Frame) (meth : Method) (c : Code) (G : GG) (cc : ByteArray) (nL : Nat) (own : String) (ret : Option FieldType) : Prop :=
  p.tables.exec = Jvm.exec ∧ c.code = cc ∧ c.maxLocals = nL ∧ s.vm.findClass own = some m.cls ∧ (∀ w ∈ wsL_law, w.before args s = true) ∧ meth.locks = false ∧ meth.sig.returnType = ret ∧ Wv G s ∧ nL < 2 ^ 16
def Zq (p : Program) (l : Launch) (e : Env) (Rm : Room) (s : State) (m : MethodId) (args : Array Value) (below : List Frame) (meth : Method) (c : Code) (G : GG) (nL : Nat) (Q : State → Prop) (cells slots z : Nat) (K N : Nat → Nat) (I : MI) (R : MR) (pc : Nat) (lv : List (Nat × Value)) (st : List Value) : Prop :=
  ∀ (H : Heap) (locs : List Loc) (ls : Array Slot), Wh G z K N I R H → (∀ q ∈ locs, G.2.2.size ≤ q.base) → lv_has ls nL lv → lvd lv = true → W p l e Rm s m args below meth c H locs cells slots Q (F0 m pc ls st)
section ZR
variable {p : Program} {l : Launch} {e : Env} {Rm : Room} {s : State} {m : MethodId} {args : Array Value} {below : List Frame} {meth : Method} {c : Code} {G : GG} {cc : ByteArray} {nL : Nat} {own : String} {ret : Option FieldType}
variable {Q : State → Prop} {cells slots z : Nat} {K N : Nat → Nat} {I : MI} {R : MR} {pc : Nat} {lv : List (Nat × Value)} {st : List Value}

theorem z_iconst (C : Cx p l e Rm s m args below meth c G cc nL own ret) {n : Int} (d : decode cc pc = .ok (.iconst n, 1))
    (k : Zq p l e Rm s m args below meth c G nL Q cells slots z K N I R (pc + 1) lv (.int (zI n) :: st)) : Zq p l e Rm s m args below meth c G nL Q cells slots z K N I R pc lv st :=
  fun H locs ls hW hL hl hd => lv_iconst C.1 C.2.1 d rfl (k H locs ls hW hL hl hd)
theorem zI_8 : ∀ n : Fin 256, (Int8.ofInt ((n.val : Int) - 128)).toInt32 = zI ((n.val : Int) - 128) := by decide +kernel
theorem zI_i8 {n : Int} (h : -128 ≤ n ∧ n < 128) : (Int8.ofInt n).toInt32 = zI n := by
  have h1 := zI_8 ⟨(n + 128).toNat, by omega⟩
  simp only at h1
  rwa [show (((n + 128).toNat : Nat) : Int) - 128 = n by omega] at h1
theorem zI_i16 {n : Int} (h : -32768 ≤ n ∧ n < 32768) : (Int16.ofInt n).toInt32 = zI n := by
  apply Int32.toInt_inj.mp
  rw [zI_int ⟨by omega, by omega⟩, Int16.toInt_toInt32]
  exact Int16.toInt_ofInt_of_le (by simpa using h.1) (by simpa using h.2)
theorem z_bipush (C : Cx p l e Rm s m args below meth c G cc nL own ret) {n : Int} (d : decode cc pc = .ok (.bipush n, 2)) (hn : -128 ≤ n ∧ n < 128)
    (k : Zq p l e Rm s m args below meth c G nL Q cells slots z K N I R (pc + 2) lv (.int (zI n) :: st)) : Zq p l e Rm s m args below meth c G nL Q cells slots z K N I R pc lv st :=
  fun H locs ls hW hL hl hd => lv_bipush C.1 C.2.1 d (zI_i8 hn) (k H locs ls hW hL hl hd)
theorem z_sipush (C : Cx p l e Rm s m args below meth c G cc nL own ret) {n : Int} (d : decode cc pc = .ok (.sipush n, 3)) (hn : -32768 ≤ n ∧ n < 32768)
    (k : Zq p l e Rm s m args below meth c G nL Q cells slots z K N I R (pc + 3) lv (.int (zI n) :: st)) : Zq p l e Rm s m args below meth c G nL Q cells slots z K N I R pc lv st :=
  fun H locs ls hW hL hl hd => lv_sipush C.1 C.2.1 d (zI_i16 hn) (k H locs ls hW hL hl hd)
theorem z_ldc (C : Cx p l e Rm s m args below meth c G cc nL own ret) {i : Nat} {n : Int} (d : decode cc pc = .ok (.ldc i, 2)) (hw : Cond.constant own i (zI n) ∈ wsL_law)
    (k : Zq p l e Rm s m args below meth c G nL Q cells slots z K N I R (pc + 2) lv (.int (zI n) :: st)) : Zq p l e Rm s m args below meth c G nL Q cells slots z K N I R pc lv st :=
  fun H locs ls hW hL hl hd => lv_ldc C.1 C.2.1 C.2.2.2.1 (C.2.2.2.2.1 _ hw) d (k H locs ls hW hL hl hd)
theorem z_iload_n (C : Cx p l e Rm s m args below meth c G cc nL own ret) {j : Fin 4} {x : Int32} (d : decode cc pc = .ok (.iload_n j, 1)) (h : lvg lv j = some (.int x))
    (k : Zq p l e Rm s m args below meth c G nL Q cells slots z K N I R (pc + 1) lv (.int x :: st)) : Zq p l e Rm s m args below meth c G nL Q cells slots z K N I R pc lv st :=
  fun H locs ls hW hL hl hd => lv_iload_n C.1 C.2.1 d rfl (lvg_at hl h) (k H locs ls hW hL hl hd)
theorem z_iload (C : Cx p l e Rm s m args below meth c G cc nL own ret) {j : Nat} {x : Int32} (d : decode cc pc = .ok (.iload j, 2)) (h : lvg lv j = some (.int x))
    (k : Zq p l e Rm s m args below meth c G nL Q cells slots z K N I R (pc + 2) lv (.int x :: st)) : Zq p l e Rm s m args below meth c G nL Q cells slots z K N I R pc lv st :=
  fun H locs ls hW hL hl hd => lv_iload C.1 C.2.1 d (lvg_at hl h) (k H locs ls hW hL hl hd)
theorem z_lload_n (C : Cx p l e Rm s m args below meth c G cc nL own ret) {j : Fin 4} {x : Int64} (d : decode cc pc = .ok (.lload_n j, 1)) (h : lvg lv j = some (.long x))
    (k : Zq p l e Rm s m args below meth c G nL Q cells slots z K N I R (pc + 1) lv (.long x :: st)) : Zq p l e Rm s m args below meth c G nL Q cells slots z K N I R pc lv st :=
  fun H locs ls hW hL hl hd => lv_lload_n C.1 C.2.1 d rfl (lvg_at hl h) (k H locs ls hW hL hl hd)
theorem z_lload (C : Cx p l e Rm s m args below meth c G cc nL own ret) {j : Nat} {x : Int64} (d : decode cc pc = .ok (.lload j, 2)) (h : lvg lv j = some (.long x))
    (k : Zq p l e Rm s m args below meth c G nL Q cells slots z K N I R (pc + 2) lv (.long x :: st)) : Zq p l e Rm s m args below meth c G nL Q cells slots z K N I R pc lv st :=
  fun H locs ls hW hL hl hd => lv_lload C.1 C.2.1 d (lvg_at hl h) (k H locs ls hW hL hl hd)
theorem z_aload_n (C : Cx p l e Rm s m args below meth c G cc nL own ret) {j : Fin 4} {x : Nat} (d : decode cc pc = .ok (.aload_n j, 1)) (h : lvg lv j = some (.ref x))
    (k : Zq p l e Rm s m args below meth c G nL Q cells slots z K N I R (pc + 1) lv (.ref x :: st)) : Zq p l e Rm s m args below meth c G nL Q cells slots z K N I R pc lv st :=
  fun H locs ls hW hL hl hd => lv_aload_n C.1 C.2.1 d rfl (lvg_at hl h) (k H locs ls hW hL hl hd)
theorem z_aload (C : Cx p l e Rm s m args below meth c G cc nL own ret) {j : Nat} {x : Nat} (d : decode cc pc = .ok (.aload j, 2)) (h : lvg lv j = some (.ref x))
    (k : Zq p l e Rm s m args below meth c G nL Q cells slots z K N I R (pc + 2) lv (.ref x :: st)) : Zq p l e Rm s m args below meth c G nL Q cells slots z K N I R pc lv st :=
  fun H locs ls hW hL hl hd => lv_aload C.1 C.2.1 d (lvg_at hl h) (k H locs ls hW hL hl hd)
theorem lvs_d : ∀ (lv : List (Nat × Value)) (i : Nat) (v : Value), lvd lv = true → lvd (lvs lv i v) = true
  | [], _, _, _ => rfl
  | (j, u) :: r, i, v, h => by
    unfold lvd at h
    rw [Bool.and_eq_true] at h
    unfold lvs
    cases hb : Nat.beq j i with
    | true =>
      have e := Nat.eq_of_beq_eq_true hb
      subst e
      show lvd ((j, v) :: r) = true
      unfold lvd
      rw [Bool.and_eq_true]
      exact h
    | false =>
      show lvd ((j, u) :: lvs r i v) = true
      unfold lvd
      rw [Bool.and_eq_true]
      refine ⟨List.all_eq_true.mpr fun q hq => ?_, lvs_d r i v h.2⟩
      rcases lvs_mem r i v q h.2 hq with e | ⟨h1, -⟩
      · rw [e]
        show (!(Nat.beq i j)) = true
        cases hc : Nat.beq i j with
        | true =>
          have e2 := Nat.eq_of_beq_eq_true hc
          rw [e2, Nat.beq_refl] at hb
          cases hb
        | false => rfl
      · exact List.all_eq_true.mp h.1 q h1
theorem z_istore_n (C : Cx p l e Rm s m args below meth c G cc nL own ret) {j : Fin 4} {x : Int32} (d : decode cc pc = .ok (.istore_n j, 1)) (hn : (j : Nat) < nL) (ho : lvo lv j = true)
    (k : Zq p l e Rm s m args below meth c G nL Q cells slots z K N I R (pc + 1) (lvs lv j (.int x)) st) : Zq p l e Rm s m args below meth c G nL Q cells slots z K N I R pc lv (.int x :: st) :=
  fun H locs ls hW hL hl hd => lv_istore_n C.1 C.2.1 d rfl hl hn rfl (fun ls1 h1 => k H locs ls1 hW hL (lvs_has hd ho h1) (lvs_d _ _ _ hd))
theorem z_istore (C : Cx p l e Rm s m args below meth c G cc nL own ret) {j : Nat} {x : Int32} (d : decode cc pc = .ok (.istore j, 2)) (hn : j < nL) (ho : lvo lv j = true)
    (k : Zq p l e Rm s m args below meth c G nL Q cells slots z K N I R (pc + 2) (lvs lv j (.int x)) st) : Zq p l e Rm s m args below meth c G nL Q cells slots z K N I R pc lv (.int x :: st) :=
  fun H locs ls hW hL hl hd => lv_istore C.1 C.2.1 d hl hn rfl (fun ls1 h1 => k H locs ls1 hW hL (lvs_has hd ho h1) (lvs_d _ _ _ hd))
theorem z_astore_n (C : Cx p l e Rm s m args below meth c G cc nL own ret) {j : Fin 4} {x : Nat} (d : decode cc pc = .ok (.astore_n j, 1)) (hn : (j : Nat) < nL) (ho : lvo lv j = true)
    (k : Zq p l e Rm s m args below meth c G nL Q cells slots z K N I R (pc + 1) (lvs lv j (.ref x)) st) : Zq p l e Rm s m args below meth c G nL Q cells slots z K N I R pc lv (.ref x :: st) :=
  fun H locs ls hW hL hl hd => lv_astore_n C.1 C.2.1 d rfl hl hn rfl (fun ls1 h1 => k H locs ls1 hW hL (lvs_has hd ho h1) (lvs_d _ _ _ hd))
theorem z_astore (C : Cx p l e Rm s m args below meth c G cc nL own ret) {j : Nat} {x : Nat} (d : decode cc pc = .ok (.astore j, 2)) (hn : j < nL) (ho : lvo lv j = true)
    (k : Zq p l e Rm s m args below meth c G nL Q cells slots z K N I R (pc + 2) (lvs lv j (.ref x)) st) : Zq p l e Rm s m args below meth c G nL Q cells slots z K N I R pc lv (.ref x :: st) :=
  fun H locs ls hW hL hl hd => lv_astore C.1 C.2.1 d hl hn rfl (fun ls1 h1 => k H locs ls1 hW hL (lvs_has hd ho h1) (lvs_d _ _ _ hd))
theorem lvg_pos : ∀ (lv : List (Nat × Value)) (i : Nat) (v : Value), lvg lv i = some v → ∃ k : Nat, lv[k]? = some (i, v) := fun lv i v h => by
  obtain ⟨k, hk⟩ := List.getElem?_of_mem (lvg_mem lv i v h)
  exact ⟨k, hk⟩
theorem z_iinc (C : Cx p l e Rm s m args below meth c G cc nL own ret) {j : Nat} {n x : Int} (d : decode cc pc = .ok (.iinc j n, 3)) (h : lvg lv j = some (.int (zI x))) (hn : j < nL) (ho : lvo lv j = true)
    (k : Zq p l e Rm s m args below meth c G nL Q cells slots z K N I R (pc + 3) (lvs lv j (.int (zI (x + n)))) st) : Zq p l e Rm s m args below meth c G nL Q cells slots z K N I R pc lv st := fun H locs ls hW hL hl hd => by
  obtain ⟨q, hq⟩ := lvg_pos lv j _ h
  exact lv_iinc (v := zI (x + n)) C.1 C.2.1 d hl hq (zI_add x n) hn rfl (fun ls1 h1 => k H locs ls1 hW hL (lvs_has hd ho h1) (lvs_d _ _ _ hd))
theorem z_iadd (C : Cx p l e Rm s m args below meth c G cc nL own ret) {a b : Int} (d : decode cc pc = .ok (.iadd, 1)) (k : Zq p l e Rm s m args below meth c G nL Q cells slots z K N I R (pc + 1) lv (.int (zI (a + b)) :: st)) : Zq p l e Rm s m args below meth c G nL Q cells slots z K N I R pc lv (.int (zI b) :: .int (zI a) :: st) := fun H locs ls hW hL hl hd =>
  lv_iadd C.1 C.2.1 d (by rw [zI_add]; exact k H locs ls hW hL hl hd)
theorem z_isub (C : Cx p l e Rm s m args below meth c G cc nL own ret) {a b : Int} (d : decode cc pc = .ok (.isub, 1)) (k : Zq p l e Rm s m args below meth c G nL Q cells slots z K N I R (pc + 1) lv (.int (zI (a - b)) :: st)) : Zq p l e Rm s m args below meth c G nL Q cells slots z K N I R pc lv (.int (zI b) :: .int (zI a) :: st) := fun H locs ls hW hL hl hd =>
  lv_isub C.1 C.2.1 d (by rw [zI_sub]; exact k H locs ls hW hL hl hd)
theorem z_imul (C : Cx p l e Rm s m args below meth c G cc nL own ret) {a b : Int} (d : decode cc pc = .ok (.imul, 1)) (k : Zq p l e Rm s m args below meth c G nL Q cells slots z K N I R (pc + 1) lv (.int (zI (a * b)) :: st)) : Zq p l e Rm s m args below meth c G nL Q cells slots z K N I R pc lv (.int (zI b) :: .int (zI a) :: st) := fun H locs ls hW hL hl hd =>
  lv_imul C.1 C.2.1 d (by rw [zI_mul]; exact k H locs ls hW hL hl hd)
theorem z_ineg (C : Cx p l e Rm s m args below meth c G cc nL own ret) {a : Int} (d : decode cc pc = .ok (.ineg, 1)) (k : Zq p l e Rm s m args below meth c G nL Q cells slots z K N I R (pc + 1) lv (.int (zI (-a)) :: st)) : Zq p l e Rm s m args below meth c G nL Q cells slots z K N I R pc lv (.int (zI a) :: st) := fun H locs ls hW hL hl hd =>
  lv_ineg C.1 C.2.1 d (by rw [zI_neg]; exact k H locs ls hW hL hl hd)
theorem z_idiv (C : Cx p l e Rm s m args below meth c G cc nL own ret) {a b : Int} (d : decode cc pc = .ok (.idiv, 1)) (ha : 0 ≤ a ∧ a < 2147483648) (hb : 0 < b ∧ b < 2147483648) (k : Zq p l e Rm s m args below meth c G nL Q cells slots z K N I R (pc + 1) lv (.int (zI (a / b)) :: st)) : Zq p l e Rm s m args below meth c G nL Q cells slots z K N I R pc lv (.int (zI b) :: .int (zI a) :: st) := fun H locs ls hW hL hl hd =>
  lv_idiv C.1 C.2.1 d (by rw [zI_0, zI_eq ⟨by omega, hb.2⟩ ⟨by omega, by omega⟩]; omega) (by rw [zI_div ha hb]; exact k H locs ls hW hL hl hd)
theorem z_irem (C : Cx p l e Rm s m args below meth c G cc nL own ret) {a b : Int} (d : decode cc pc = .ok (.irem, 1)) (ha : 0 ≤ a ∧ a < 2147483648) (hb : 0 < b ∧ b < 2147483648) (k : Zq p l e Rm s m args below meth c G nL Q cells slots z K N I R (pc + 1) lv (.int (zI (a % b)) :: st)) : Zq p l e Rm s m args below meth c G nL Q cells slots z K N I R pc lv (.int (zI b) :: .int (zI a) :: st) := fun H locs ls hW hL hl hd =>
  lv_irem C.1 C.2.1 d (by rw [zI_0, zI_eq ⟨by omega, hb.2⟩ ⟨by omega, by omega⟩]; omega) (by rw [zI_rem ha hb]; exact k H locs ls hW hL hl hd)
theorem z_iand (C : Cx p l e Rm s m args below meth c G cc nL own ret) {x y v : Int32} (d : decode cc pc = .ok (.iand, 1)) (hv : x &&& y = v) (k : Zq p l e Rm s m args below meth c G nL Q cells slots z K N I R (pc + 1) lv (.int v :: st)) : Zq p l e Rm s m args below meth c G nL Q cells slots z K N I R pc lv (.int y :: .int x :: st) := fun H locs ls hW hL hl hd =>
  lv_iand C.1 C.2.1 d (by rw [hv]; exact k H locs ls hW hL hl hd)
theorem z_ior (C : Cx p l e Rm s m args below meth c G cc nL own ret) {x y v : Int32} (d : decode cc pc = .ok (.ior, 1)) (hv : x ||| y = v) (k : Zq p l e Rm s m args below meth c G nL Q cells slots z K N I R (pc + 1) lv (.int v :: st)) : Zq p l e Rm s m args below meth c G nL Q cells slots z K N I R pc lv (.int y :: .int x :: st) := fun H locs ls hW hL hl hd =>
  lv_ior C.1 C.2.1 d (by rw [hv]; exact k H locs ls hW hL hl hd)
theorem z_ixor (C : Cx p l e Rm s m args below meth c G cc nL own ret) {x y v : Int32} (d : decode cc pc = .ok (.ixor, 1)) (hv : x ^^^ y = v) (k : Zq p l e Rm s m args below meth c G nL Q cells slots z K N I R (pc + 1) lv (.int v :: st)) : Zq p l e Rm s m args below meth c G nL Q cells slots z K N I R pc lv (.int y :: .int x :: st) := fun H locs ls hW hL hl hd =>
  lv_ixor C.1 C.2.1 d (by rw [hv]; exact k H locs ls hW hL hl hd)
theorem z_ishl (C : Cx p l e Rm s m args below meth c G cc nL own ret) {x y v : Int32} (d : decode cc pc = .ok (.ishl, 1)) (hv : x <<< (y &&& 31) = v) (k : Zq p l e Rm s m args below meth c G nL Q cells slots z K N I R (pc + 1) lv (.int v :: st)) : Zq p l e Rm s m args below meth c G nL Q cells slots z K N I R pc lv (.int y :: .int x :: st) := fun H locs ls hW hL hl hd =>
  lv_ishl C.1 C.2.1 d (by rw [hv]; exact k H locs ls hW hL hl hd)
theorem z_ishr (C : Cx p l e Rm s m args below meth c G cc nL own ret) {x y v : Int32} (d : decode cc pc = .ok (.ishr, 1)) (hv : x >>> (y &&& 31) = v) (k : Zq p l e Rm s m args below meth c G nL Q cells slots z K N I R (pc + 1) lv (.int v :: st)) : Zq p l e Rm s m args below meth c G nL Q cells slots z K N I R pc lv (.int y :: .int x :: st) := fun H locs ls hW hL hl hd =>
  lv_ishr C.1 C.2.1 d (by rw [hv]; exact k H locs ls hW hL hl hd)
theorem z_iushr (C : Cx p l e Rm s m args below meth c G cc nL own ret) {x y v : Int32} (d : decode cc pc = .ok (.iushr, 1)) (hv : (x.toUInt32 >>> (y.toUInt32 &&& Int32.toUInt32 31)).toInt32 = v) (k : Zq p l e Rm s m args below meth c G nL Q cells slots z K N I R (pc + 1) lv (.int v :: st)) : Zq p l e Rm s m args below meth c G nL Q cells slots z K N I R pc lv (.int y :: .int x :: st) := fun H locs ls hW hL hl hd =>
  lv_iushr C.1 C.2.1 d hv (k H locs ls hW hL hl hd)
theorem z_top {x y : Value} (h : x = y) (k : Zq p l e Rm s m args below meth c G nL Q cells slots z K N I R pc lv (y :: st)) : Zq p l e Rm s m args below meth c G nL Q cells slots z K N I R pc lv (x :: st) := h ▸ k
theorem z_mem {I' : MI} {R' : MR} (h : I = I') (h2 : R = R') (k : Zq p l e Rm s m args below meth c G nL Q cells slots z K N I' R' pc lv st) : Zq p l e Rm s m args below meth c G nL Q cells slots z K N I R pc lv st := h ▸ h2 ▸ k
theorem z_dup (C : Cx p l e Rm s m args below meth c G cc nL own ret) {v : Value} (d : decode cc pc = .ok (.dup, 1)) (hv : v.category = 1)
    (k : Zq p l e Rm s m args below meth c G nL Q cells slots z K N I R (pc + 1) lv (v :: v :: st)) : Zq p l e Rm s m args below meth c G nL Q cells slots z K N I R pc lv (v :: st) :=
  fun H locs ls hW hL hl hd => lv_dup C.1 C.2.1 d hv (k H locs ls hW hL hl hd)
theorem z_pop (C : Cx p l e Rm s m args below meth c G cc nL own ret) {v : Value} (d : decode cc pc = .ok (.pop, 1)) (hv : v.category = 1)
    (k : Zq p l e Rm s m args below meth c G nL Q cells slots z K N I R (pc + 1) lv st) : Zq p l e Rm s m args below meth c G nL Q cells slots z K N I R pc lv (v :: st) :=
  fun H locs ls hW hL hl hd => lv_pop C.1 C.2.1 d hv (k H locs ls hW hL hl hd)
theorem z_dup2 (C : Cx p l e Rm s m args below meth c G cc nL own ret) {u v : Value} (d : decode cc pc = .ok (.dup2, 1)) (hu : u.category = 1) (hv : v.category = 1)
    (k : Zq p l e Rm s m args below meth c G nL Q cells slots z K N I R (pc + 1) lv (u :: v :: u :: v :: st)) : Zq p l e Rm s m args below meth c G nL Q cells slots z K N I R pc lv (u :: v :: st) :=
  fun H locs ls hW hL hl hd => lv_dup2_11 C.1 C.2.1 d hu hv (k H locs ls hW hL hl hd)
theorem z_dup_x1 (C : Cx p l e Rm s m args below meth c G cc nL own ret) {u v : Value} (d : decode cc pc = .ok (.dup_x1, 1)) (hu : u.category = 1) (hv : v.category = 1)
    (k : Zq p l e Rm s m args below meth c G nL Q cells slots z K N I R (pc + 1) lv (u :: v :: u :: st)) : Zq p l e Rm s m args below meth c G nL Q cells slots z K N I R pc lv (u :: v :: st) :=
  fun H locs ls hW hL hl hd => lv_dup_x1 C.1 C.2.1 d hu hv (k H locs ls hW hL hl hd)
theorem z_dup_x2 (C : Cx p l e Rm s m args below meth c G cc nL own ret) {u v v2 : Value} (d : decode cc pc = .ok (.dup_x2, 1)) (hu : u.category = 1) (hv : v.category = 1) (hv2 : v2.category = 1)
    (k : Zq p l e Rm s m args below meth c G nL Q cells slots z K N I R (pc + 1) lv (u :: v :: v2 :: u :: st)) : Zq p l e Rm s m args below meth c G nL Q cells slots z K N I R pc lv (u :: v :: v2 :: st) :=
  fun H locs ls hW hL hl hd => lv_dup_x2 C.1 C.2.1 d hu hv hv2 (k H locs ls hW hL hl hd)
theorem z_null (C : Cx p l e Rm s m args below meth c G cc nL own ret) (d : decode cc pc = .ok (.aconst_null, 1))
    (k : Zq p l e Rm s m args below meth c G nL Q cells slots z K N I R (pc + 1) lv (.null :: st)) : Zq p l e Rm s m args below meth c G nL Q cells slots z K N I R pc lv st :=
  fun H locs ls hW hL hl hd => lv_null C.1 C.2.1 d (k H locs ls hW hL hl hd)
theorem z_goto (C : Cx p l e Rm s m args below meth c G cc nL own ret) {off : Int} {tgt : Nat} (d : decode cc pc = .ok (.goto off, 3)) (ht : (pc : Int) + off = (tgt : Int))
    (k : Zq p l e Rm s m args below meth c G nL Q cells slots z K N I R tgt lv st) : Zq p l e Rm s m args below meth c G nL Q cells slots z K N I R pc lv st :=
  fun H locs ls hW hL hl hd => lv_goto C.1 C.2.1 d ht (k H locs ls hW hL hl hd)
theorem z_icmp_eq (C : Cx p l e Rm s m args below meth c G cc nL own ret) {a b off : Int} {tgt : Nat} (d : decode cc pc = .ok (.if_icmp .eq off, 3)) (ht : (pc : Int) + off = (tgt : Int)) (ha : -2147483648 ≤ a ∧ a < 2147483648) (hb : -2147483648 ≤ b ∧ b < 2147483648)
    (kt : a = b → Zq p l e Rm s m args below meth c G nL Q cells slots z K N I R tgt lv st) (kf : ¬ a = b → Zq p l e Rm s m args below meth c G nL Q cells slots z K N I R (pc + 3) lv st) : Zq p l e Rm s m args below meth c G nL Q cells slots z K N I R pc lv (.int (zI b) :: .int (zI a) :: st) := fun H locs ls hW hL hl hd =>
  lv_icmp_eq C.1 C.2.1 d ht (fun q => kt ((zI_eq ha hb).mp q) H locs ls hW hL hl hd) (fun q => kf (fun z => q ((zI_eq ha hb).mpr z)) H locs ls hW hL hl hd)
theorem z_if_eq (C : Cx p l e Rm s m args below meth c G cc nL own ret) {a off : Int} {tgt : Nat} (d : decode cc pc = .ok (.ifCond .eq off, 3)) (ht : (pc : Int) + off = (tgt : Int)) (ha : -2147483648 ≤ a ∧ a < 2147483648)
    (kt : a = 0 → Zq p l e Rm s m args below meth c G nL Q cells slots z K N I R tgt lv st) (kf : ¬ a = 0 → Zq p l e Rm s m args below meth c G nL Q cells slots z K N I R (pc + 3) lv st) : Zq p l e Rm s m args below meth c G nL Q cells slots z K N I R pc lv (.int (zI a) :: st) := fun H locs ls hW hL hl hd => by
  have hb : -2147483648 ≤ (0 : Int) ∧ (0 : Int) < 2147483648 := ⟨by omega, by omega⟩
  exact lv_if_eq C.1 C.2.1 d ht (fun q => kt ((zI_eq ha hb).mp (zI_0 ▸ q)) H locs ls hW hL hl hd) (fun q => kf (fun z => q (zI_0 ▸ (zI_eq ha hb).mpr z)) H locs ls hW hL hl hd)
theorem z_icmp_ne (C : Cx p l e Rm s m args below meth c G cc nL own ret) {a b off : Int} {tgt : Nat} (d : decode cc pc = .ok (.if_icmp .ne off, 3)) (ht : (pc : Int) + off = (tgt : Int)) (ha : -2147483648 ≤ a ∧ a < 2147483648) (hb : -2147483648 ≤ b ∧ b < 2147483648)
    (kt : ¬ a = b → Zq p l e Rm s m args below meth c G nL Q cells slots z K N I R tgt lv st) (kf : a = b → Zq p l e Rm s m args below meth c G nL Q cells slots z K N I R (pc + 3) lv st) : Zq p l e Rm s m args below meth c G nL Q cells slots z K N I R pc lv (.int (zI b) :: .int (zI a) :: st) := fun H locs ls hW hL hl hd =>
  lv_icmp_ne C.1 C.2.1 d ht (fun q => kt (fun z => q ((zI_eq ha hb).mpr z)) H locs ls hW hL hl hd) (fun q => kf ((zI_eq ha hb).mp q) H locs ls hW hL hl hd)
theorem z_if_ne (C : Cx p l e Rm s m args below meth c G cc nL own ret) {a off : Int} {tgt : Nat} (d : decode cc pc = .ok (.ifCond .ne off, 3)) (ht : (pc : Int) + off = (tgt : Int)) (ha : -2147483648 ≤ a ∧ a < 2147483648)
    (kt : ¬ a = 0 → Zq p l e Rm s m args below meth c G nL Q cells slots z K N I R tgt lv st) (kf : a = 0 → Zq p l e Rm s m args below meth c G nL Q cells slots z K N I R (pc + 3) lv st) : Zq p l e Rm s m args below meth c G nL Q cells slots z K N I R pc lv (.int (zI a) :: st) := fun H locs ls hW hL hl hd => by
  have hb : -2147483648 ≤ (0 : Int) ∧ (0 : Int) < 2147483648 := ⟨by omega, by omega⟩
  exact lv_if_ne C.1 C.2.1 d ht (fun q => kt (fun z => q (zI_0 ▸ (zI_eq ha hb).mpr z)) H locs ls hW hL hl hd) (fun q => kf ((zI_eq ha hb).mp (zI_0 ▸ q)) H locs ls hW hL hl hd)
theorem z_icmp_lt (C : Cx p l e Rm s m args below meth c G cc nL own ret) {a b off : Int} {tgt : Nat} (d : decode cc pc = .ok (.if_icmp .lt off, 3)) (ht : (pc : Int) + off = (tgt : Int)) (ha : -2147483648 ≤ a ∧ a < 2147483648) (hb : -2147483648 ≤ b ∧ b < 2147483648)
    (kt : a < b → Zq p l e Rm s m args below meth c G nL Q cells slots z K N I R tgt lv st) (kf : ¬ a < b → Zq p l e Rm s m args below meth c G nL Q cells slots z K N I R (pc + 3) lv st) : Zq p l e Rm s m args below meth c G nL Q cells slots z K N I R pc lv (.int (zI b) :: .int (zI a) :: st) := fun H locs ls hW hL hl hd =>
  lv_icmp_lt C.1 C.2.1 d ht (fun q => kt ((zI_lt ha hb).mp q) H locs ls hW hL hl hd) (fun q => kf (fun z => q ((zI_lt ha hb).mpr z)) H locs ls hW hL hl hd)
theorem z_if_lt (C : Cx p l e Rm s m args below meth c G cc nL own ret) {a off : Int} {tgt : Nat} (d : decode cc pc = .ok (.ifCond .lt off, 3)) (ht : (pc : Int) + off = (tgt : Int)) (ha : -2147483648 ≤ a ∧ a < 2147483648)
    (kt : a < 0 → Zq p l e Rm s m args below meth c G nL Q cells slots z K N I R tgt lv st) (kf : ¬ a < 0 → Zq p l e Rm s m args below meth c G nL Q cells slots z K N I R (pc + 3) lv st) : Zq p l e Rm s m args below meth c G nL Q cells slots z K N I R pc lv (.int (zI a) :: st) := fun H locs ls hW hL hl hd => by
  have hb : -2147483648 ≤ (0 : Int) ∧ (0 : Int) < 2147483648 := ⟨by omega, by omega⟩
  exact lv_if_lt C.1 C.2.1 d ht (fun q => kt ((zI_lt ha hb).mp (zI_0 ▸ q)) H locs ls hW hL hl hd) (fun q => kf (fun z => q (zI_0 ▸ (zI_lt ha hb).mpr z)) H locs ls hW hL hl hd)
theorem z_icmp_ge (C : Cx p l e Rm s m args below meth c G cc nL own ret) {a b off : Int} {tgt : Nat} (d : decode cc pc = .ok (.if_icmp .ge off, 3)) (ht : (pc : Int) + off = (tgt : Int)) (ha : -2147483648 ≤ a ∧ a < 2147483648) (hb : -2147483648 ≤ b ∧ b < 2147483648)
    (kt : b ≤ a → Zq p l e Rm s m args below meth c G nL Q cells slots z K N I R tgt lv st) (kf : ¬ b ≤ a → Zq p l e Rm s m args below meth c G nL Q cells slots z K N I R (pc + 3) lv st) : Zq p l e Rm s m args below meth c G nL Q cells slots z K N I R pc lv (.int (zI b) :: .int (zI a) :: st) := fun H locs ls hW hL hl hd =>
  lv_icmp_ge C.1 C.2.1 d ht (fun q => kt ((zI_le hb ha).mp q) H locs ls hW hL hl hd) (fun q => kf (fun z => q ((zI_le hb ha).mpr z)) H locs ls hW hL hl hd)
theorem z_if_ge (C : Cx p l e Rm s m args below meth c G cc nL own ret) {a off : Int} {tgt : Nat} (d : decode cc pc = .ok (.ifCond .ge off, 3)) (ht : (pc : Int) + off = (tgt : Int)) (ha : -2147483648 ≤ a ∧ a < 2147483648)
    (kt : 0 ≤ a → Zq p l e Rm s m args below meth c G nL Q cells slots z K N I R tgt lv st) (kf : ¬ 0 ≤ a → Zq p l e Rm s m args below meth c G nL Q cells slots z K N I R (pc + 3) lv st) : Zq p l e Rm s m args below meth c G nL Q cells slots z K N I R pc lv (.int (zI a) :: st) := fun H locs ls hW hL hl hd => by
  have hb : -2147483648 ≤ (0 : Int) ∧ (0 : Int) < 2147483648 := ⟨by omega, by omega⟩
  exact lv_if_ge C.1 C.2.1 d ht (fun q => kt ((zI_le hb ha).mp (zI_0 ▸ q)) H locs ls hW hL hl hd) (fun q => kf (fun z => q (zI_0 ▸ (zI_le hb ha).mpr z)) H locs ls hW hL hl hd)
theorem z_icmp_gt (C : Cx p l e Rm s m args below meth c G cc nL own ret) {a b off : Int} {tgt : Nat} (d : decode cc pc = .ok (.if_icmp .gt off, 3)) (ht : (pc : Int) + off = (tgt : Int)) (ha : -2147483648 ≤ a ∧ a < 2147483648) (hb : -2147483648 ≤ b ∧ b < 2147483648)
    (kt : b < a → Zq p l e Rm s m args below meth c G nL Q cells slots z K N I R tgt lv st) (kf : ¬ b < a → Zq p l e Rm s m args below meth c G nL Q cells slots z K N I R (pc + 3) lv st) : Zq p l e Rm s m args below meth c G nL Q cells slots z K N I R pc lv (.int (zI b) :: .int (zI a) :: st) := fun H locs ls hW hL hl hd =>
  lv_icmp_gt C.1 C.2.1 d ht (fun q => kt ((zI_lt hb ha).mp q) H locs ls hW hL hl hd) (fun q => kf (fun z => q ((zI_lt hb ha).mpr z)) H locs ls hW hL hl hd)
theorem z_if_gt (C : Cx p l e Rm s m args below meth c G cc nL own ret) {a off : Int} {tgt : Nat} (d : decode cc pc = .ok (.ifCond .gt off, 3)) (ht : (pc : Int) + off = (tgt : Int)) (ha : -2147483648 ≤ a ∧ a < 2147483648)
    (kt : 0 < a → Zq p l e Rm s m args below meth c G nL Q cells slots z K N I R tgt lv st) (kf : ¬ 0 < a → Zq p l e Rm s m args below meth c G nL Q cells slots z K N I R (pc + 3) lv st) : Zq p l e Rm s m args below meth c G nL Q cells slots z K N I R pc lv (.int (zI a) :: st) := fun H locs ls hW hL hl hd => by
  have hb : -2147483648 ≤ (0 : Int) ∧ (0 : Int) < 2147483648 := ⟨by omega, by omega⟩
  exact lv_if_gt C.1 C.2.1 d ht (fun q => kt ((zI_lt hb ha).mp (zI_0 ▸ q)) H locs ls hW hL hl hd) (fun q => kf (fun z => q (zI_0 ▸ (zI_lt hb ha).mpr z)) H locs ls hW hL hl hd)
theorem z_icmp_le (C : Cx p l e Rm s m args below meth c G cc nL own ret) {a b off : Int} {tgt : Nat} (d : decode cc pc = .ok (.if_icmp .le off, 3)) (ht : (pc : Int) + off = (tgt : Int)) (ha : -2147483648 ≤ a ∧ a < 2147483648) (hb : -2147483648 ≤ b ∧ b < 2147483648)
    (kt : a ≤ b → Zq p l e Rm s m args below meth c G nL Q cells slots z K N I R tgt lv st) (kf : ¬ a ≤ b → Zq p l e Rm s m args below meth c G nL Q cells slots z K N I R (pc + 3) lv st) : Zq p l e Rm s m args below meth c G nL Q cells slots z K N I R pc lv (.int (zI b) :: .int (zI a) :: st) := fun H locs ls hW hL hl hd =>
  lv_icmp_le C.1 C.2.1 d ht (fun q => kt ((zI_le ha hb).mp q) H locs ls hW hL hl hd) (fun q => kf (fun z => q ((zI_le ha hb).mpr z)) H locs ls hW hL hl hd)
theorem z_if_le (C : Cx p l e Rm s m args below meth c G cc nL own ret) {a off : Int} {tgt : Nat} (d : decode cc pc = .ok (.ifCond .le off, 3)) (ht : (pc : Int) + off = (tgt : Int)) (ha : -2147483648 ≤ a ∧ a < 2147483648)
    (kt : a ≤ 0 → Zq p l e Rm s m args below meth c G nL Q cells slots z K N I R tgt lv st) (kf : ¬ a ≤ 0 → Zq p l e Rm s m args below meth c G nL Q cells slots z K N I R (pc + 3) lv st) : Zq p l e Rm s m args below meth c G nL Q cells slots z K N I R pc lv (.int (zI a) :: st) := fun H locs ls hW hL hl hd => by
  have hb : -2147483648 ≤ (0 : Int) ∧ (0 : Int) < 2147483648 := ⟨by omega, by omega⟩
  exact lv_if_le C.1 C.2.1 d ht (fun q => kt ((zI_le ha hb).mp (zI_0 ▸ q)) H locs ls hW hL hl hd) (fun q => kf (fun z => q (zI_0 ▸ (zI_le ha hb).mpr z)) H locs ls hW hL hl hd)
theorem z_ifnull (C : Cx p l e Rm s m args below meth c G cc nL own ret) {r : Option Nat} {off : Int} {tgt : Nat} (d : decode cc pc = .ok (.ifnull off, 3)) (ht : (pc : Int) + off = (tgt : Int))
    (kt : r = none → Zq p l e Rm s m args below meth c G nL Q cells slots z K N I R tgt lv st) (kf : ∀ x, r = some x → Zq p l e Rm s m args below meth c G nL Q cells slots z K N I R (pc + 3) lv st) : Zq p l e Rm s m args below meth c G nL Q cells slots z K N I R pc lv (va_rf r :: st) := fun H locs ls hW hL hl hd => by
  cases hr : r with
  | none => exact lv_ifnullN C.1 C.2.1 d ht (kt hr H locs ls hW hL hl hd)
  | some x => exact lv_ifnull C.1 C.2.1 d (kf x hr H locs ls hW hL hl hd)
theorem z_ifnonnull (C : Cx p l e Rm s m args below meth c G cc nL own ret) {r : Option Nat} {off : Int} {tgt : Nat} (d : decode cc pc = .ok (.ifnonnull off, 3)) (ht : (pc : Int) + off = (tgt : Int))
    (kt : ∀ x, r = some x → Zq p l e Rm s m args below meth c G nL Q cells slots z K N I R tgt lv st) (kf : r = none → Zq p l e Rm s m args below meth c G nL Q cells slots z K N I R (pc + 3) lv st) : Zq p l e Rm s m args below meth c G nL Q cells slots z K N I R pc lv (va_rf r :: st) := fun H locs ls hW hL hl hd => by
  cases hr : r with
  | none => exact lv_ifnonnullN C.1 C.2.1 d (kf hr H locs ls hW hL hl hd)
  | some x => exact lv_ifnonnull C.1 C.2.1 d ht (kt x hr H locs ls hW hL hl hd)
theorem z_tout (C : Cx p l e Rm s m args below meth c G cc nL own ret) {dflt lo hi a : Int} {offs : Array Int} {len : Nat} {tgt : Nat} (d : decode cc pc = .ok (.tableswitch dflt lo hi offs, len)) (ha : -2147483648 ≤ a ∧ a < 2147483648) (h : a < lo ∨ hi < a) (ht : (pc : Int) + dflt = (tgt : Int))
    (k : Zq p l e Rm s m args below meth c G nL Q cells slots z K N I R tgt lv st) : Zq p l e Rm s m args below meth c G nL Q cells slots z K N I R pc lv (.int (zI a) :: st) := fun H locs ls hW hL hl hd =>
  lv_tableOut C.1 C.2.1 d (by rw [zI_int ha]; exact h) ht (k H locs ls hW hL hl hd)
theorem z_tin (C : Cx p l e Rm s m args below meth c G cc nL own ret) {dflt lo hi a : Int} {offs : Array Int} {len : Nat} {off : Int} {tgt : Nat} (v : Int) (d : decode cc pc = .ok (.tableswitch dflt lo hi offs, len)) (he : a = v) (hv : -2147483648 ≤ v ∧ v < 2147483648) (h1 : lo ≤ v) (h2 : v ≤ hi) (ho : offs[(v - lo).toNat]? = some off) (ht : (pc : Int) + off = (tgt : Int))
    (k : Zq p l e Rm s m args below meth c G nL Q cells slots z K N I R tgt lv st) : Zq p l e Rm s m args below meth c G nL Q cells slots z K N I R pc lv (.int (zI a) :: st) := fun H locs ls hW hL hl hd => by
  subst he
  exact lv_tableIn C.1 C.2.1 d (by rw [zI_int hv]; omega) (by rw [zI_int hv]; omega) (by rw [zI_int hv]; exact ho) ht (k H locs ls hW hL hl hd)
theorem z_look (C : Cx p l e Rm s m args below meth c G cc nL own ret) {dflt a : Int} {ps : Array (Int × Int)} {len : Nat} {off : Int} {tgt : Nat} (d : decode cc pc = .ok (.lookupswitch dflt ps, len)) (hp : (ps.toList.zip (ps.toList.drop 1)).all (fun (a, next) => a.1 < next.1) = true) (ha : -2147483648 ≤ a ∧ a < 2147483648) (ho : Op.lookupswitch.offset ps.toList dflt a = off) (ht : (pc : Int) + off = (tgt : Int))
    (k : Zq p l e Rm s m args below meth c G nL Q cells slots z K N I R tgt lv st) : Zq p l e Rm s m args below meth c G nL Q cells slots z K N I R pc lv (.int (zI a) :: st) := fun H locs ls hW hL hl hd =>
  lv_lookup C.1 C.2.1 d hp (by rw [zI_int ha]; exact ho) ht (k H locs ls hW hL hl hd)
theorem z_get (C : Cx p l e Rm s m args below meth c G cc nL own ret) {i ci k a N0 : Nat} {C0 : String} {T0 : u_T} (hc : vwCl[ci]? = some (C0, T0, N0)) (h8 : ci < 8) (hn : znf ci = N0) (hk : k < N0) (hin : ∀ w ∈ u_ws C0 T0 N0, w ∈ wsL_law) (hlink : Cond.fieldLink own i (T0 k).1 (T0 k).2.1 (T0 k).2.2.1 ∈ wsL_law) (d : decode cc pc = .ok (.getfield i, 3)) (ha : zK G z K a ci)
    (k0 : Zq p l e Rm s m args below meth c G nL Q cells slots z K N I R (pc + 3) lv (zfv (zty ci k) (I a k) (R a k) :: st)) : Zq p l e Rm s m args below meth c G nL Q cells slots z K N I R pc lv (.ref a :: st) := fun H locs ls hW hL hl hd =>
  va_get (ws := [(a, .inr (ci, zfs ci I R a))]) C.1 C.2.1 C.2.2.2.2.1 hin C.2.2.2.1 C.2.2.2.2.2.2.2.1.1 (va_P1 (by rw [← zat_o (ct := G.2.1) (N := N) ha.2.2 h8]; exact hW.2.2.2 a ha.1 ha.2.1)) 0 rfl hc k hk (C.2.2.2.2.1 _ hlink) (fun _ h9 => h9) (zfs_get (by omega)) d (k0 H locs ls hW hL hl hd)
theorem z_gI (C : Cx p l e Rm s m args below meth c G cc nL own ret) {i ci k a N0 : Nat} {C0 : String} {T0 : u_T} (hc : vwCl[ci]? = some (C0, T0, N0)) (h8 : ci < 8) (hn : znf ci = N0) (hk : k < N0) (hin : ∀ w ∈ u_ws C0 T0 N0, w ∈ wsL_law) (hlink : Cond.fieldLink own i (T0 k).1 (T0 k).2.1 (T0 k).2.2.1 ∈ wsL_law) (ht : zty ci k = .int) (d : decode cc pc = .ok (.getfield i, 3)) (ha : zK G z K a ci)
    (k0 : Zq p l e Rm s m args below meth c G nL Q cells slots z K N I R (pc + 3) lv (.int (zI (I a k)) :: st)) : Zq p l e Rm s m args below meth c G nL Q cells slots z K N I R pc lv (.ref a :: st) :=
  z_get C hc h8 hn hk hin hlink d ha (z_top (by rw [ht]; rfl) k0)
theorem zfv_r {ty : FieldType} (h : ¬ ty = .int) (x : Int) (r : Option Nat) : zfv ty x r = va_rf r := by
  cases ty <;> first | rfl | exact absurd rfl h
theorem z_gO (C : Cx p l e Rm s m args below meth c G cc nL own ret) {i ci k a N0 : Nat} {C0 : String} {T0 : u_T} (hc : vwCl[ci]? = some (C0, T0, N0)) (h8 : ci < 8) (hn : znf ci = N0) (hk : k < N0) (hin : ∀ w ∈ u_ws C0 T0 N0, w ∈ wsL_law) (hlink : Cond.fieldLink own i (T0 k).1 (T0 k).2.1 (T0 k).2.2.1 ∈ wsL_law) (ht : ¬ zty ci k = .int) (d : decode cc pc = .ok (.getfield i, 3)) (ha : zK G z K a ci)
    (k0 : Zq p l e Rm s m args below meth c G nL Q cells slots z K N I R (pc + 3) lv (va_rf (R a k) :: st)) : Zq p l e Rm s m args below meth c G nL Q cells slots z K N I R pc lv (.ref a :: st) :=
  z_get C hc h8 hn hk hin hlink d ha (z_top (zfv_r ht _ _) k0)
theorem z_gR (C : Cx p l e Rm s m args below meth c G cc nL own ret) {i ci k a N0 : Nat} {C0 : String} {T0 : u_T} {b : Nat} (hc : vwCl[ci]? = some (C0, T0, N0)) (h8 : ci < 8) (hn : znf ci = N0) (hk : k < N0) (hin : ∀ w ∈ u_ws C0 T0 N0, w ∈ wsL_law) (hlink : Cond.fieldLink own i (T0 k).1 (T0 k).2.1 (T0 k).2.2.1 ∈ wsL_law) (ht : ¬ zty ci k = .int) (d : decode cc pc = .ok (.getfield i, 3)) (ha : zK G z K a ci) (hr : R a k = some b)
    (k0 : Zq p l e Rm s m args below meth c G nL Q cells slots z K N I R (pc + 3) lv (.ref b :: st)) : Zq p l e Rm s m args below meth c G nL Q cells slots z K N I R pc lv (.ref a :: st) :=
  z_get C hc h8 hn hk hin hlink d ha (z_top (by rw [zfv_r ht, hr]; rfl) k0)
theorem zk_put (C : Cx p l e Rm s m args below meth c G cc nL own ret) {i ci k a N0 : Nat} {C0 : String} {T0 : u_T} {H : Heap} {locs : List Loc} {ls : Array Slot} (ty0 : Nat → FieldType) (hty : ∀ k, k < N0 → parseFieldDescriptor (T0 k).2.2.1 = some (ty0 k)) (hnm : ∀ a, a < N0 → ∀ b, b < N0 → a ≠ b → (T0 a).2.1 ≠ (T0 b).2.1) (hin : ∀ w ∈ u_ws C0 T0 N0, w ∈ wsL_law) {fs : List Value} (hat : va_at G.1 vwCl (a, .inr (ci, fs)) H) (hc : vwCl[ci]? = some (C0, T0, N0)) (hk : k < N0) (hlink : Cond.fieldLink own i (T0 k).1 (T0 k).2.1 (T0 k).2.2.1 ∈ wsL_law)
    (hfin : (T0 k).2.2.2 = false ∨ ((T0 k).2.2.2 = true ∧ meth.name = "<init>" ∧ (T0 k).1 = own)) {v : Value} (hn : narrow (ty0 k) v = v) (hfit : fits (ty0 k) v = true) (hl : k < fs.length) (hdg : decode cc pc = .ok (.putfield i, 3))
    (kk : ∀ (H1 : Heap) (l1 : Loc), l1.base = a → va_at G.1 vwCl (a, .inr (ci, fs.set k v)) H1 → H1.size = H.size → (∀ q : Nat, q ≠ a → H1[q]? = H[q]?) → W p l e Rm s m args below meth c H1 (locs ++ [l1]) cells slots Q (F0 m (pc + 3) ls st)) : W p l e Rm s m args below meth c H locs cells slots Q (F0 m pc ls (v :: .ref a :: st)) := by
  obtain ⟨hexec, hb, -, hown, hts, -, -, hWv, -⟩ := C
  have hK := hWv.1
  have hap := va_apart (own := own) hts hin ty0 hty hnm hK hc
  obtain ⟨r, h1, cell, q1, q2, q3, q4⟩ := hat
  have hr : r = (C0, T0, N0) := Option.some.inj (h1.symm.trans hc)
  subst hr
  obtain ⟨hS, hfc, kC, hkC, hkind⟩ := hK.1 ci _ hc
  obtain ⟨cf, kf, fi, f, hi, hsl⟩ := hS k hk
  have hlay := hts _ (hin _ (u_in_lay hk))
  have hst := (u_facts hfc hkC (u_lays hts hin hk) hi).1
  have hd := hty k hk
  rcases hfin with hfin | ⟨hfin, hin2, hdecl⟩
  · unfold u_lay at hlay
    rw [if_neg (by rw [hfin]; decide)] at hlay
    have h6 := u_store hfc hkC hkind hlay hi hd hn hfit
    refine W.putK hexec hb (f := f) ⟨hown, hts _ hlink, ⟨_, _, _, hi⟩, hst⟩ (by rw [q2]; exact h6) q1 q3 (by rw [hsl]; exact k2_hasslot (q4 k hk)) rfl rfl hdg fun H' e1 e2 e3 => ?_
    rw [hsl] at e1 ⊢
    exact kk H' _ rfl ⟨_, hc, t_OB.to (V := updV (vp_V fs) k v) ⟨_, e1, q2, q3, t_set q4 hap hk v⟩ (fun j _ => vp_updV_set hl v j)⟩ e2 e3
  · unfold u_lay at hlay
    rw [if_pos hfin] at hlay
    have hcf : m.cls = cf := by
      obtain ⟨_, _, c', _, _, _, -, -, hf', -, -, -, hown2, -⟩ := Cond.laysFinal_spec hlay
      have e1 : c' = cf := by have := hi.symm.trans hf'; simp at this; exact this.1.symm
      rw [hdecl] at hown2
      rw [← e1]; exact Option.some.inj (hown.symm.trans hown2)
    have h6 := u_fits hfc hkC hkind (Or.inr hlay) hi hd hn hfit
    refine W.putFinK hexec hb hown (hts _ hlink) hi hst hcf hin2 (by rw [q2]; exact h6) q1 q3 (by rw [hsl]; exact k2_hasslot (q4 k hk)) rfl rfl hdg fun H' e1 e2 e3 => ?_
    rw [hsl] at e1 ⊢
    exact kk H' _ rfl ⟨_, hc, t_OB.to (V := updV (vp_V fs) k v) ⟨_, e1, q2, q3, t_set q4 hap hk v⟩ (fun j _ => vp_updV_set hl v j)⟩ e2 e3
theorem zloc {G : GG} {locs : List Loc} {l1 : Loc} {a : Nat} (hL : ∀ q ∈ locs, G.2.2.size ≤ q.base) (e : l1.base = a) (ha : G.2.2.size ≤ a) : ∀ q ∈ locs ++ [l1], G.2.2.size ≤ q.base := fun q hq => by
  rcases List.mem_append.mp hq with h | h
  · exact hL q h
  · rw [List.mem_singleton.mp h, e]; exact ha
theorem z_pI (C : Cx p l e Rm s m args below meth c G cc nL own ret) {i ci k a N0 : Nat} {C0 : String} {T0 : u_T} {v : Int} (hc : vwCl[ci]? = some (C0, T0, N0)) (h8 : ci < 8) (hn : znf ci = N0) (hk : k < N0) (hty : ∀ k, k < N0 → parseFieldDescriptor (T0 k).2.2.1 = some (zty ci k)) (hnm : ∀ a, a < N0 → ∀ b, b < N0 → a ≠ b → (T0 a).2.1 ≠ (T0 b).2.1) (hin : ∀ w ∈ u_ws C0 T0 N0, w ∈ wsL_law) (hlink : Cond.fieldLink own i (T0 k).1 (T0 k).2.1 (T0 k).2.2.1 ∈ wsL_law) (ht : zty ci k = .int)
    (hfin : (T0 k).2.2.2 = false ∨ ((T0 k).2.2.2 = true ∧ meth.name = "<init>" ∧ (T0 k).1 = own)) (d : decode cc pc = .ok (.putfield i, 3)) (ha : zK G z K a ci)
    (k0 : Zq p l e Rm s m args below meth c G nL Q cells slots z K N (u2 I a k v) R (pc + 3) lv st) : Zq p l e Rm s m args below meth c G nL Q cells slots z K N I R pc lv (.int (zI v) :: .ref a :: st) := fun H locs ls hW hL hl hd => by
  refine zk_put C (zty ci) hty hnm hin (fs := zfs ci I R a) (by rw [← zat_o (ct := G.2.1) (N := N) ha.2.2 h8]; exact hW.2.2.2 a ha.1 ha.2.1) hc hk hlink hfin (by rw [ht]; rfl) (by rw [ht]; rfl) (by rw [zfs_len]; omega) d fun H1 l1 e1 e2 e3 e4 => ?_
  refine k0 H1 _ ls (hW.upd ha.1 e3 e4 ?_ fun b hb => ⟨u2_row hb, rfl⟩) (zloc hL e1 ha.1) hl hd
  rw [zat_o ha.2.2 h8, ← zfs_set (I := I) (R := R) (k := k) (v := .int (zI v)) (by omega) (by rw [ht, u2_s]; rfl) (fun j hj => ⟨u2_k hj, rfl⟩)]
  exact e2
theorem z_pR (C : Cx p l e Rm s m args below meth c G cc nL own ret) {i ci k a N0 : Nat} {C0 : String} {T0 : u_T} {r : Option Nat} (hc : vwCl[ci]? = some (C0, T0, N0)) (h8 : ci < 8) (hn : znf ci = N0) (hk : k < N0) (hty : ∀ k, k < N0 → parseFieldDescriptor (T0 k).2.2.1 = some (zty ci k)) (hnm : ∀ a, a < N0 → ∀ b, b < N0 → a ≠ b → (T0 a).2.1 ≠ (T0 b).2.1) (hin : ∀ w ∈ u_ws C0 T0 N0, w ∈ wsL_law) (hlink : Cond.fieldLink own i (T0 k).1 (T0 k).2.1 (T0 k).2.2.1 ∈ wsL_law) (ht : ¬ zty ci k = .int) (hrk : ∀ r : Option Nat, narrow (zty ci k) (va_rf r) = va_rf r ∧ fits (zty ci k) (va_rf r) = true)
    (hfin : (T0 k).2.2.2 = false ∨ ((T0 k).2.2.2 = true ∧ meth.name = "<init>" ∧ (T0 k).1 = own)) (d : decode cc pc = .ok (.putfield i, 3)) (ha : zK G z K a ci)
    (k0 : Zq p l e Rm s m args below meth c G nL Q cells slots z K N I (u2 R a k r) (pc + 3) lv st) : Zq p l e Rm s m args below meth c G nL Q cells slots z K N I R pc lv (va_rf r :: .ref a :: st) := fun H locs ls hW hL hl hd => by
  refine zk_put C (zty ci) hty hnm hin (fs := zfs ci I R a) (by rw [← zat_o (ct := G.2.1) (N := N) ha.2.2 h8]; exact hW.2.2.2 a ha.1 ha.2.1) hc hk hlink hfin (hrk r).1 (hrk r).2 (by rw [zfs_len]; omega) d fun H1 l1 e1 e2 e3 e4 => ?_
  refine k0 H1 _ ls (hW.upd ha.1 e3 e4 ?_ fun b hb => ⟨rfl, u2_row hb⟩) (zloc hL e1 ha.1) hl hd
  rw [zat_o ha.2.2 h8, ← zfs_set (I := I) (R := R) (k := k) (v := va_rf r) (by omega) (by rw [zfv_r ht, u2_s]) (fun j hj => ⟨rfl, u2_k hj⟩)]
  exact e2
theorem zwI {H : Heap} {a : Nat} (hW : Wh G z K N I R H) (ha : zK G z K a 9) : H[a]? = some (vp_cell (G.2.1 1) (N a, .inl (fun j => zI (I a j)))) := by
  have h := hW.2.2.2 a ha.1 ha.2.1
  rw [zat_i ha.2.2] at h
  exact h
theorem zwC {H : Heap} {a : Nat} (hW : Wh G z K N I R H) (ha : zK G z K a 8) : H[a]? = some (vp_cell (G.2.1 0) (N a, .inl (fun j => zI (I a j)))) := by
  have h := hW.2.2.2 a ha.1 ha.2.1
  rw [zat_c ha.2.2] at h
  exact h
theorem z_iald (C : Cx p l e Rm s m args below meth c G cc nL own ret) {a : Nat} {j : Int} (d : decode cc pc = .ok (.iaload, 1)) (ha : zK G z K a 9) (hj : 0 ≤ j ∧ j < (N a : Int)) (hN : N a < 2147483648)
    (k : Zq p l e Rm s m args below meth c G nL Q cells slots z K N I R (pc + 1) lv (.int (zI (I a j.toNat)) :: st)) : Zq p l e Rm s m args below meth c G nL Q cells slots z K N I R pc lv (.int (zI j) :: .ref a :: st) := fun H locs ls hW hL hl hd => by
  obtain ⟨h1, h2⟩ := zI_idx hj.1 hj.2 hN
  refine va_iald (ws := [(a, .inl (G.2.1 1, N a, .inl (fun j => zI (I a j))))]) C.1 C.2.1 C.2.2.2.2.2.2.2.1.1 (va_P1 (zwI hW ha)) 0 1 rfl rfl h1 d ?_
  rw [h2]
  exact k H locs ls hW hL hl hd
theorem z_cald (C : Cx p l e Rm s m args below meth c G cc nL own ret) {a : Nat} {j : Int} (d : decode cc pc = .ok (.caload, 1)) (ha : zK G z K a 8) (hj : 0 ≤ j ∧ j < (N a : Int)) (hN : N a < 2147483648)
    (k : Zq p l e Rm s m args below meth c G nL Q cells slots z K N I R (pc + 1) lv (.int (zI (I a j.toNat)) :: st)) : Zq p l e Rm s m args below meth c G nL Q cells slots z K N I R pc lv (.int (zI j) :: .ref a :: st) := fun H locs ls hW hL hl hd => by
  obtain ⟨h1, h2⟩ := zI_idx hj.1 hj.2 hN
  refine va_cald (ws := [(a, .inl (G.2.1 0, N a, .inl (fun j => zI (I a j))))]) C.1 C.2.1 C.2.2.2.2.2.2.2.1.1 (va_P1 (zwC hW ha)) 0 0 rfl rfl h1 d ?_
  rw [h2]
  exact k H locs ls hW hL hl hd
theorem zupI {I : MI} {a i : Nat} {v : Int} (cA : ClassId) (n : Nat) : (vp_cell cA (n, .inl (fun j => zI (I a j)))).setSlot i (.int (zI v)) = vp_cell cA (n, .inl (fun j => zI (u2 I a i v a j))) := by
  rw [vp_cell_i, vp_cell_i, arrV_store]
  congr 2
  funext q
  by_cases hq : q = i
  · subst hq
    simp [updV, u2_s]
  · simp [updV, hq, u2_k hq]
theorem z_iast (C : Cx p l e Rm s m args below meth c G cc nL own ret) {a : Nat} {j : Int} {v : Int} (d : decode cc pc = .ok (.iastore, 1)) (ha : zK G z K a 9) (hj : 0 ≤ j ∧ j < (N a : Int)) (hN : N a < 2147483648)
    (k : Zq p l e Rm s m args below meth c G nL Q cells slots z K N (u2 I a j.toNat v) R (pc + 1) lv st) : Zq p l e Rm s m args below meth c G nL Q cells slots z K N I R pc lv (.int (zI v) :: .int (zI j) :: .ref a :: st) := fun H locs ls hW hL hl hd => by
  obtain ⟨h1, h2⟩ := zI_idx hj.1 hj.2 hN
  refine W.iast C.1 C.2.1 (zwI hW ha) ((C.2.2.2.2.2.2.2.1.1.2 1 _ rfl).1 (N a) (fun j => .int (zI (I a j)))) (fun q => by cases q) (by show ¬ (zI j < 0 ∨ (arrV _ _ _).slots.size ≤ _); rw [arrV_size]; exact h1) rfl rfl d fun H1 e1 e2 e3 => ?_
  refine k H1 _ ls (hW.upd ha.1 e2 e3 ?_ fun b hb => ⟨u2_row hb, rfl⟩) (zloc hL rfl ha.1) hl hd
  rw [zat_i ha.2.2]
  show H1[a]? = some (vp_cell _ _)
  rw [e1, h2, zupI]
theorem zchar {v : Int} (h : 0 ≤ v ∧ v < 65536) : narrow .char (.int (zI v)) = .int (zI v) := by
  obtain ⟨n, rfl⟩ := Int.eq_ofNat_of_zero_le h.1
  exact (pk_charN (by omega)).1
theorem z_cast (C : Cx p l e Rm s m args below meth c G cc nL own ret) {a : Nat} {j : Int} {v : Int} (d : decode cc pc = .ok (.castore, 1)) (ha : zK G z K a 8) (hj : 0 ≤ j ∧ j < (N a : Int)) (hN : N a < 2147483648) (hv : 0 ≤ v ∧ v < 65536)
    (k : Zq p l e Rm s m args below meth c G nL Q cells slots z K N (u2 I a j.toNat v) R (pc + 1) lv st) : Zq p l e Rm s m args below meth c G nL Q cells slots z K N I R pc lv (.int (zI v) :: .int (zI j) :: .ref a :: st) := fun H locs ls hW hL hl hd => by
  obtain ⟨h1, h2⟩ := zI_idx hj.1 hj.2 hN
  refine W.cast C.1 C.2.1 (zwC hW ha) ((C.2.2.2.2.2.2.2.1.1.2 0 _ rfl).1 (N a) (fun j => .int (zI (I a j)))) (fun q => by cases q) (by show ¬ (zI j < 0 ∨ (arrV _ _ _).slots.size ≤ _); rw [arrV_size]; exact h1) rfl rfl d fun H1 e1 e2 e3 => ?_
  refine k H1 _ ls (hW.upd ha.1 e2 e3 ?_ fun b hb => ⟨u2_row hb, rfl⟩) (zloc hL rfl ha.1) hl hd
  rw [zat_c ha.2.2]
  show H1[a]? = some (vp_cell _ _)
  rw [e1, h2, zchar hv, zupI]
theorem z_alen (C : Cx p l e Rm s m args below meth c G cc nL own ret) {a : Nat} (d : decode cc pc = .ok (.arraylength, 1)) (ha : zK G z K a 9)
    (k : Zq p l e Rm s m args below meth c G nL Q cells slots z K N I R (pc + 1) lv (.int (zI (N a : Int)) :: st)) : Zq p l e Rm s m args below meth c G nL Q cells slots z K N I R pc lv (.ref a :: st) := fun H locs ls hW hL hl hd =>
  va_alen (ws := [(a, .inl (G.2.1 1, N a, .inl (fun j => zI (I a j))))]) C.1 C.2.1 C.2.2.2.2.2.2.2.1.1 (va_P1 (zwI hW ha)) 0 1 rfl rfl (v := zI (N a : Int)) rfl d (k H locs ls hW hL hl hd)
theorem z_aalen (C : Cx p l e Rm s m args below meth c G cc nL own ret) {a : Nat} (d : decode cc pc = .ok (.arraylength, 1)) (ha : zK G z K a 11)
    (k : Zq p l e Rm s m args below meth c G nL Q cells slots z K N I R (pc + 1) lv (.int (zI (N a : Int)) :: st)) : Zq p l e Rm s m args below meth c G nL Q cells slots z K N I R pc lv (.ref a :: st) := fun H locs ls hW hL hl hd =>
  va_alen (ws := [(a, .inl (G.2.1 3, N a, .inr (.inr (.inr (.inr (R a))))))]) C.1 C.2.1 C.2.2.2.2.2.2.2.1.1 (va_P1 (by rw [← zat_t (I := I) (R := R) ha.2.2]; exact hW.2.2.2 a ha.1 ha.2.1)) 0 3 rfl rfl (v := zI (N a : Int)) rfl d (k H locs ls hW hL hl hd)
theorem z_aald (C : Cx p l e Rm s m args below meth c G cc nL own ret) {a : Nat} {j : Int} (kd : Nat) (hkd : kd = 10 ∨ kd = 11) (d : decode cc pc = .ok (.aaload, 1)) (ha : zK G z K a kd) (hj : 0 ≤ j ∧ j < (N a : Int)) (hN : N a < 2147483648)
    (k : Zq p l e Rm s m args below meth c G nL Q cells slots z K N I R (pc + 1) lv (va_rf (R a j.toNat) :: st)) : Zq p l e Rm s m args below meth c G nL Q cells slots z K N I R pc lv (.int (zI j) :: .ref a :: st) := fun H locs ls hW hL hl hd => by
  obtain ⟨h1, h2⟩ := zI_idx hj.1 hj.2 hN
  have hat := hW.2.2.2 a ha.1 ha.2.1
  have k1 := k H locs ls hW hL hl hd
  rw [← h2] at k1
  rcases hkd with e | e
  · subst e
    rw [zat_g ha.2.2] at hat
    exact va_aldq C.1 C.2.1 C.2.2.2.2.2.2.2.1.1 (va_P1 hat) 0 2 rfl rfl h1 d k1
  · subst e
    rw [zat_t ha.2.2] at hat
    exact va_aldq C.1 C.2.1 C.2.2.2.2.2.2.2.1.1 (va_P1 hat) 0 3 rfl rfl h1 d k1
theorem va_up_s {α : Type} (f : Nat → α) (a : Nat) (v : α) : va_up f a v a = v := if_pos rfl
theorem va_up_n {α : Type} {f : Nat → α} {a b : Nat} {v : α} (h : b ≠ a) : va_up f a v b = f b := if_neg h
theorem z_aast (C : Cx p l e Rm s m args below meth c G cc nL own ret) {a : Nat} {j : Int} (kd ci : Nat) {b N0 : Nat} {C0 : String} {T0 : u_T} (hkd : (kd = 10 ∧ C0 = RX1) ∨ (kd = 11 ∧ C0 = RX4)) (h8 : ci < 8) (hc : vwCl[ci]? = some (C0, T0, N0)) (d : decode cc pc = .ok (.aastore, 1)) (ha : zK G z K a kd) (hb : zK G z K b ci) (hj : 0 ≤ j ∧ j < (N a : Int)) (hN : N a < 2147483648)
    (k : Zq p l e Rm s m args below meth c G nL Q cells slots z K N I (u2 R a j.toNat (some b)) (pc + 1) lv st) : Zq p l e Rm s m args below meth c G nL Q cells slots z K N I R pc lv (.ref b :: .int (zI j) :: .ref a :: st) := fun H locs ls hW hL hl hd => by
  obtain ⟨h1, h2⟩ := zI_idx hj.1 hj.2 hN
  have hat := hW.2.2.2 a ha.1 ha.2.1
  have hv := hW.2.2.2 b hb.1 hb.2.1
  rw [zat_o hb.2.2 h8] at hv
  obtain ⟨cA, tk, ht, hz⟩ : ∃ (cA : ClassId) (tk : Nat), (ztys G.2.1)[tk]? = some (cA, .object C0) ∧ ∀ R' : MR, zat G.2.1 K N I R' a = .inl (cA, N a, .inr (.inr (.inr (.inr (R' a))))) := by
    rcases hkd with ⟨e, e2⟩ | ⟨e, e2⟩
    · subst e; subst e2; exact ⟨_, 2, rfl, fun R' => zat_g ha.2.2⟩
    · subst e; subst e2; exact ⟨_, 3, rfl, fun R' => zat_t ha.2.2⟩
  rw [hz] at hat
  have hK := C.2.2.2.2.2.2.2.1.1
  have hlt : (zI j).toNatClampNeg < N a := Nat.not_le.mp fun q => h1 (Or.inr q)
  have h0 : ¬ zI j < 0 := fun q => h1 (Or.inl q)
  obtain ⟨r', hr', cellV, g1, g2, g3, -⟩ := hv
  have hcls := (hK.1 ci _ hc).2
  obtain ⟨kA, comp, k1, k2, k3, -⟩ := (hK.2 tk _ ht).2
  have hcomp : comp = G.1.1 ci := Option.some.inj (k3.symm.trans hcls.1)
  subst hcomp
  obtain ⟨kC, hkC, -⟩ := hcls.2
  refine W.aast C.1 C.2.1 hat (fun q h => by cases h) (fun h => by cases h) k1 k2 rfl hkC ⟨h0, by show _ < (arrV _ _ _).slots.size; rw [arrV_size]; exact hlt⟩ g1 (fun q h => by rw [g3] at h; cases h) (by rw [g2]; exact hkC) (by rw [g2]; exact va_assign hcls) rfl rfl d fun H1 e1 e2 e3 => ?_
  refine k H1 _ ls (hW.upd ha.1 e2 e3 ?_ fun b hb => ⟨rfl, u2_row hb⟩) (zloc hL rfl ha.1) hl hd
  rw [hz]
  show H1[a]? = some (vp_cell _ _)
  rw [e1, h2, vp_cell_q, vp_cell_q, arrV_store]
  congr 2
  funext q
  by_cases hq : q = j.toNat
  · subst hq
    simp [updV, u2_s, va_rf]
  · simp [updV, hq, u2_k hq]
theorem z_new (C : Cx p l e Rm s m args below meth c G cc nL own ret) (ci : Nat) {i N0 : Nat} {C0 : String} {T0 : u_T} (hc : vwCl[ci]? = some (C0, T0, N0)) (h8 : ci < 8) (hn : znf ci = N0) (hty : ∀ k, k < N0 → parseFieldDescriptor (T0 k).2.2.1 = some (zty ci k)) (hdf : ∀ k, k < N0 → defaultValue (zty ci k) = zfv (zty ci k) 0 none) (hin : ∀ w ∈ u_ws C0 T0 N0, w ∈ wsL_law) (hcl : Cond.classLink own i C0 ∈ wsL_law) (hinst : Cond.instantiable C0 N0 ∈ wsL_law) (hini : Cond.initialized C0 ∈ wsL_law) (d : decode cc pc = .ok (.new i, 3)) (hcells : cells + 1 ≤ Rm.cells) (hslots : slots + N0 ≤ Rm.slots)
    (k : Zq p l e Rm s m args below meth c G nL Q (cells + 1) (slots + N0) (z + 1) (va_up K z ci) N (va_up I z (fun _ => 0)) (va_up R z (fun _ => none)) (pc + 3) lv (.ref z :: st)) : Zq p l e Rm s m args below meth c G nL Q cells slots z K N I R pc lv st := fun H locs ls hW hL hl hd => by
  have hKn := C.2.2.2.2.2.2.2.1.1.1 ci _ hc
  refine W.newcK C.1 C.2.1 C.2.2.2.1 (C.2.2.2.2.1 _ hcl) (C.2.2.2.2.1 _ hinst) (C.2.2.2.2.1 _ hini) rfl d hcells hslots hKn.2.1 hW.1 fun H1 kC hkC e1 z1 o1 => ?_
  refine k H1 locs ls (hW.push (by rw [z1, hW.1]) (by rw [hW.1]; exact o1) ?_ fun b hb => ⟨va_up_n (Nat.ne_of_lt hb), rfl, va_up_n (Nat.ne_of_lt hb), va_up_n (Nat.ne_of_lt hb)⟩) hL hl hd
  rw [zat_o (va_up_s K z ci) h8]
  refine ⟨_, hc, (u_born (zty ci) C.2.2.2.2.1 hin hKn hkC e1 hty).to fun j hj => ?_⟩
  have hj' : j < znf ci := by rw [hn]; exact hj
  show defaultValue (zty ci j) = (zfs ci _ _ z).getD j .null
  rw [List.getD_eq_getElem?_getD, zfs_get hj', va_up_s, va_up_s, hdf j hj]
  rfl
theorem z_newa (C : Cx p l e Rm s m args below meth c G cc nL own ret) {n : Int} (d : decode cc pc = .ok (.newarray .int, 2)) (hw : Cond.arrayClass .int ∈ wsL_law) (hn : 0 ≤ n ∧ n < 2000) (hcells : cells + 1 ≤ Rm.cells) (hslots : slots + n.toNat ≤ Rm.slots)
    (k : Zq p l e Rm s m args below meth c G nL Q (cells + 1) (slots + n.toNat) (z + 1) (va_up K z 9) (va_up N z n.toNat) (va_up I z (fun _ => 0)) R (pc + 2) lv (.ref z :: st)) : Zq p l e Rm s m args below meth c G nL Q cells slots z K N I R pc lv (.int (zI n) :: st) := fun H locs ls hW hL hl hd => by
  obtain ⟨c1, c2⟩ := zI_clamp hn.1 (by omega)
  refine va_newaK (atype := .int) C.1 C.2.1 (C.2.2.2.2.1 _ hw) rfl d rfl c2 c1 (by show _ * 4 ≤ _; omega) hcells hslots hW.1 fun H1 cA e1 z1 o1 hAr hNm => ?_
  have hca : G.2.1 1 = cA := Option.some.inj ((C.2.2.2.2.2.2.2.1.1.2 1 _ rfl).2.symm.trans hNm)
  refine k H1 locs ls (hW.push (by rw [z1, hW.1]) (by rw [hW.1]; exact o1) ?_ fun b hb => ⟨va_up_n (Nat.ne_of_lt hb), va_up_n (Nat.ne_of_lt hb), va_up_n (Nat.ne_of_lt hb), rfl⟩) hL hl hd
  rw [zat_i (va_up_s K z 9), va_up_s, va_up_s, hca]
  show H1[z]? = some (vp_cell _ _)
  rw [vp_cell_i, e1]
  rfl
theorem z_newc (C : Cx p l e Rm s m args below meth c G cc nL own ret) {n : Int} (d : decode cc pc = .ok (.newarray .char, 2)) (hw : Cond.arrayClass .char ∈ wsL_law) (hn : 0 ≤ n ∧ n < 2000) (hcells : cells + 1 ≤ Rm.cells) (hslots : slots + n.toNat ≤ Rm.slots)
    (k : Zq p l e Rm s m args below meth c G nL Q (cells + 1) (slots + n.toNat) (z + 1) (va_up K z 8) (va_up N z n.toNat) (va_up I z (fun _ => 0)) R (pc + 2) lv (.ref z :: st)) : Zq p l e Rm s m args below meth c G nL Q cells slots z K N I R pc lv (.int (zI n) :: st) := fun H locs ls hW hL hl hd => by
  obtain ⟨c1, c2⟩ := zI_clamp hn.1 (by omega)
  refine va_newaK (atype := .char) C.1 C.2.1 (C.2.2.2.2.1 _ hw) rfl d rfl c2 c1 (by show _ * 2 ≤ _; omega) hcells hslots hW.1 fun H1 cA e1 z1 o1 hAr hNm => ?_
  have hca : G.2.1 0 = cA := Option.some.inj ((C.2.2.2.2.2.2.2.1.1.2 0 _ rfl).2.symm.trans hNm)
  refine k H1 locs ls (hW.push (by rw [z1, hW.1]) (by rw [hW.1]; exact o1) ?_ fun b hb => ⟨va_up_n (Nat.ne_of_lt hb), va_up_n (Nat.ne_of_lt hb), va_up_n (Nat.ne_of_lt hb), rfl⟩) hL hl hd
  rw [zat_c (va_up_s K z 8), va_up_s, va_up_s, hca]
  show H1[z]? = some (vp_cell _ _)
  rw [vp_cell_i, e1]
  rfl
theorem z_anew (C : Cx p l e Rm s m args below meth c G cc nL own ret) (kd : Nat) {i : Nat} {n : Int} {C0 : String} (hkd : (kd = 10 ∧ C0 = RX1) ∨ (kd = 11 ∧ C0 = RX4)) (d : decode cc pc = .ok (.anewarray i, 3)) (hcl : Cond.classLink own i C0 ∈ wsL_law) (hn : 0 ≤ n ∧ n < 2000) (hcells : cells + 1 ≤ Rm.cells) (hslots : slots + n.toNat ≤ Rm.slots)
    (k : Zq p l e Rm s m args below meth c G nL Q (cells + 1) (slots + n.toNat) (z + 1) (va_up K z kd) (va_up N z n.toNat) I (va_up R z (fun _ => none)) (pc + 3) lv (.ref z :: st)) : Zq p l e Rm s m args below meth c G nL Q cells slots z K N I R pc lv (.int (zI n) :: st) := fun H locs ls hW hL hl hd => by
  obtain ⟨c1, c2⟩ := zI_clamp hn.1 (by omega)
  have hWv := C.2.2.2.2.2.2.2.1
  have hAO : va_AO C0 s := by rcases hkd with ⟨-, e⟩ | ⟨-, e⟩ <;> subst e; exact hWv.2.2.2.2.2.1; exact hWv.2.2.2.2.2.2
  refine W.anew C.1 C.2.1 C.2.2.2.1 (C.2.2.2.2.1 _ hcl) (va_AO.use hAO) rfl d rfl c2 (by rw [c1]; omega) hcells (by rw [c1]; exact hslots) fun cA kA comp f1 f2 f3 f4 => ?_
  rw [c1]
  obtain ⟨tk, ht, hz⟩ : ∃ (tk : Nat), (ztys G.2.1)[tk]? = some (G.2.1 tk, .object C0) ∧ ∀ (N' : Nat → Nat) (R' : MR), zat G.2.1 (va_up K z kd) N' I R' z = .inl (G.2.1 tk, N' z, .inr (.inr (.inr (.inr (R' z))))) := by
    rcases hkd with ⟨e, e2⟩ | ⟨e, e2⟩
    · subst e; subst e2; exact ⟨2, rfl, fun N' R' => zat_g (va_up_s K z 10)⟩
    · subst e; subst e2; exact ⟨3, rfl, fun N' R' => zat_t (va_up_s K z 11)⟩
  obtain ⟨kA', comp', g1, g2, g3, g4⟩ := (hWv.1.2 tk _ ht).2
  have hca : G.2.1 tk = cA := Option.some.inj (g4.symm.trans f1)
  have e1 : ∀ q : Nat, q < H.size → (H.push ({ cls := cA, slots := Array.replicate n.toNat .null, vm := .none } : Cell))[q]? = H[q]? := fun q hq => by rw [Array.getElem?_push, if_neg (Nat.ne_of_lt hq)]
  have e2 : (H.push ({ cls := cA, slots := Array.replicate n.toNat .null, vm := .none } : Cell))[H.size]? = some (arrV cA n.toNat (fun _ => .null)) := by rw [Array.getElem?_push_size, ← arrV_new]
  refine W.eq (g2 := F0 m (pc + 3) ls (.ref z :: st)) (by rw [hW.1]) (k _ locs ls (hW.push (by rw [Array.size_push]) e1 ?_ fun b hb => ⟨va_up_n (Nat.ne_of_lt hb), va_up_n (Nat.ne_of_lt hb), rfl, va_up_n (Nat.ne_of_lt hb)⟩) hL hl hd)
  rw [hz, va_up_s, va_up_s, hca]
  show _ = some (vp_cell _ _)
  have e3 := e2
  rw [hW.1] at e3
  rw [vp_cell_q, e3]
  rfl
def zsa (s : State) (H0 : Heap) (t : Nat) (f : Nat → Int) : Prop := t < H0.size ∧ ∃ cell : Cell, H0[t]? = some cell ∧ cell.vm = .none ∧ s.isArrayOf cell .int ∧ s.vm.findClass "[I" = some cell.cls ∧ cell.slots.size = 3 ∧ ∀ j : Nat, j < 3 → cell.slots[j]? = some (.int (zI (f j)))
theorem z_gets0 (C : Cx p l e Rm s m args below meth c G cc nL own ret) {i : Nat} {n : String} {f : Nat → Int} (hs : zsta s G.2.2 n f) (hlink : (Cond.fieldLink own i RX6 n "[I").before args s = true ∨ (Cond.fieldLinkNest own i RX6 n "[I" RX6).before args s = true) (d : decode cc pc = .ok (.getstatic i, 3))
    (k : ∀ t : Nat, zsa s G.2.2 t f → Zq p l e Rm s m args below meth c G nL Q cells slots z K N I R (pc + 3) lv (.ref t :: st)) : Zq p l e Rm s m args below meth c G nL Q cells slots z K N I R pc lv st := fun H locs ls hW hL hl hd => by
  obtain ⟨t, hZ, cell, g1, g2, g3, g4, g5, g6⟩ := hs
  have ht : t < G.2.2.size := (Array.getElem?_eq_some_iff.mp g1).1
  have k1 := k t ⟨ht, cell, g1, g2, g3, g4, g5, g6⟩ H locs ls hW hL hl hd
  obtain ⟨cf, kf, fi, fl, a, cl, h1, h2, h3, h4, h5, h6, h7, h8⟩ := hZ
  have ha : a < G.2.2.size := (Array.getElem?_eq_some_iff.mp h5).1
  have hH : H[a]? = some cl := by rw [hW.2.2.1 a ha]; exact h5
  rcases hlink with hlink | hlink
  · exact W.gets C.1 C.2.1 C.2.2.2.1 hlink h1 h2 h3 h4 hH (fun e => by rw [e] at h6; cases h6) h7 rfl d k1
  · exact va_WgetsN C.1 C.2.1 C.2.2.2.1 hlink h1 h2 h3 h4 hH (fun e => by rw [e] at h6; cases h6) h7 rfl d k1
theorem z_sald (C : Cx p l e Rm s m args below meth c G cc nL own ret) {t : Nat} {j : Int} {f : Nat → Int} (hs : zsa s G.2.2 t f) (d : decode cc pc = .ok (.iaload, 1)) (hj : 0 ≤ j ∧ j < 3)
    (k : Zq p l e Rm s m args below meth c G nL Q cells slots z K N I R (pc + 1) lv (.int (zI (f j.toNat)) :: st)) : Zq p l e Rm s m args below meth c G nL Q cells slots z K N I R pc lv (.int (zI j) :: .ref t :: st) := fun H locs ls hW hL hl hd => by
  obtain ⟨ht, cell, g1, g2, g3, g4, g5, g6⟩ := hs
  obtain ⟨h1, h2⟩ := zI_idx (n := 3) hj.1 hj.2 (by omega)
  exact W.iald C.1 C.2.1 (by rw [hW.2.2.1 t ht]; exact g1) g3 (by rw [g2]; exact fun h => by cases h) (by rw [g5]; exact h1) (by rw [h2]; exact g6 _ (by omega)) rfl rfl d (k H locs ls hW hL hl hd)
/-- what clone() of an int array asks of the words -/
def zclw (own : String) (i : Nat) : List Cond := [.methodLink own i ⟨"[I", "clone", "()Ljava/lang/Object;"⟩, .sameMethod "[I" "java/lang/Object" "clone" "()Ljava/lang/Object;", .native ⟨"java/lang/Object", "clone", "()Ljava/lang/Object;"⟩, .instanceMethod ⟨"java/lang/Object", "clone", "()Ljava/lang/Object;"⟩, .selects "[I" ⟨"[I", "clone", "()Ljava/lang/Object;"⟩ ⟨"java/lang/Object", "clone", "()Ljava/lang/Object;"⟩]
theorem zclone (C : Cx p l e Rm s m args below meth c G cc nL own ret) {i t n : Nat} {H : Heap} {locs : List Loc} {ls : Array Slot} {f : Nat → Int} (hws : ∀ w ∈ zclw own i, w ∈ wsL_law) {cell : Cell} (hcell : H[t]? = some cell) (hvm : cell.vm = .none) (hnm : s.vm.findClass "[I" = some cell.cls) (hsz : cell.slots.size = n) (hrd : ∀ j : Nat, j < n → cell.slots[j]? = some (.int (zI (f j)))) (d : decode cc pc = .ok (.invokevirtual i, 3)) (hframes : 1 ≤ Rm.frames) (hlocals : (st.map fun v => v.category).sum + 14 ≤ Rm.locals) (hcells : cells + 1 ≤ Rm.cells) (hslots : slots + n ≤ Rm.slots)
    (hW : Wh G z K N I R H) (hL : ∀ q ∈ locs, G.2.2.size ≤ q.base) (hl : lv_has ls nL lv) (hd : lvd lv = true) (k : Zq p l e Rm s m args below meth c G nL Q (cells + 1) (slots + n) (z + 1) (va_up K z 9) (va_up N z n) (va_up I z f) R (pc + 3) lv (.ref z :: st)) : W p l e Rm s m args below meth c H locs cells slots Q (F0 m pc ls (.ref t :: st)) := by
  have hWv := C.2.2.2.2.2.2.2.1
  have hts := C.2.2.2.2.1
  obtain ⟨hAr, hRA⟩ := hWv.1.2 1 _ rfl
  have hcls : cell.cls = G.2.1 1 := Option.some.inj (hnm.symm.trans (va_nm_int hRA))
  obtain ⟨c0, t0, f1, f2, f3⟩ := Cond.castable_spec (va_Nw.use (A := args) rfl hWv.2.2.2.2.1)
  cases hnm.symm.trans f1
  intro T hT X
  have hcellT : T.heap[t]? = some cell := by rw [hT]; exact hcell
  obtain ⟨-, kA, hkA, comp, hkind⟩ := State.isArrayOf_alike X.warmed.alike (hAr 0 (fun _ => .null))
  obtain ⟨-, kS, hkS, compS, hkindS⟩ := hAr 0 (fun _ => .null)
  obtain ⟨vm', X', stp⟩ := X.cloneArray C.1 C.2.2.2.1 (hts _ (hws _ (List.mem_of_getElem? (i := 0) rfl))) (hts _ (hws _ (List.mem_of_getElem? (i := 1) rfl))) (hts _ (hws _ (List.mem_of_getElem? (i := 2) rfl))) (hts _ (hws _ (List.mem_of_getElem? (i := 3) rfl))) (hts _ (hws _ (List.mem_of_getElem? (i := 4) rfl))) (a := t) (cell := cell) hcellT (fun k h => by rw [hvm] at h; cases h) (by rw [hvm]; exact fun h => by cases h) hnm f2 f3
    (fun i v hv => by
      have hi : i < n := by rw [← hsz]; exact (Array.getElem?_eq_some_iff.mp hv).1
      cases hv.symm.trans (hrd i hi)
      have hk' : T.vm.classes[cell.cls]? = some kA := by rw [hcls]; exact hkA
      simp [State.fitsSlot, State.slotType?, hk', hkind, fits])
    (g := F0 m pc ls (.ref t :: st)) rfl (by rw [C.2.2.1]; exact hl.1) rfl (by rw [C.2.1]; exact d) hframes (by show 2 * 0 + _ + 14 ≤ _; omega) hcells (by rw [hsz]; exact hslots) (hloader := by rw [hcls]; exact Vm.clonesLoader_of_array hkS hkindS)
  have hce : ({ cls := cell.cls, slots := cell.slots } : Cell) = arrV (G.2.1 1) n (fun j => .int (zI (f j))) := by
    rw [hcls]
    unfold arrV
    congr 1
    apply Array.ext (by rw [hsz, Array.size_ofFn])
    intro i h1 h2
    have h3 := hrd i (by rw [← hsz]; exact h1)
    rw [Array.getElem?_eq_getElem h1] at h3
    rw [Array.getElem_ofFn]
    exact Option.some.inj h3
  rw [hce] at X' stp
  rw [hsz] at X'
  have z1 : (H.push (arrV (G.2.1 1) n (fun j => .int (zI (f j))))).size = H.size + 1 := by rw [Array.size_push]
  have e1 : (H.push (arrV (G.2.1 1) n (fun j => .int (zI (f j)))))[H.size]? = some (arrV (G.2.1 1) n (fun j => .int (zI (f j)))) := by rw [Array.getElem?_push_size]
  have o1 : ∀ q : Nat, q < H.size → (H.push (arrV (G.2.1 1) n (fun j => .int (zI (f j)))))[q]? = H[q]? := fun q hq => by rw [Array.getElem?_push, if_neg (Nat.ne_of_lt hq)]
  have hz : H.size = z := hW.1
  have hz2 : T.heap.size = z := by rw [hT]; exact hW.1
  rw [hz2] at stp
  obtain ⟨t9, b1, b2⟩ := k _ locs ls (hW.push z1 o1 (by
      rw [zat_i (va_up_s K z 9), va_up_s, va_up_s]
      show _ = some (vp_cell _ _)
      have e2 := e1
      rw [hz] at e2
      rw [vp_cell_i, e2]) fun b hb => ⟨va_up_n (Nat.ne_of_lt hb), va_up_n (Nat.ne_of_lt hb), va_up_n (Nat.ne_of_lt hb), rfl⟩) hL hl hd ((T.setVm vm').pushCell (arrV (G.2.1 1) n (fun j => .int (zI (f j))))) (by rw [← hT]; rfl) X'
  exact ⟨t9, stp t9 b1, b2⟩
theorem z_sclone (C : Cx p l e Rm s m args below meth c G cc nL own ret) {i t : Nat} {f : Nat → Int} (hs : zsa s G.2.2 t f) (hws : ∀ w ∈ zclw own i, w ∈ wsL_law) (d : decode cc pc = .ok (.invokevirtual i, 3)) (hframes : 1 ≤ Rm.frames) (hlocals : (st.map fun v => v.category).sum + 14 ≤ Rm.locals) (hcells : cells + 1 ≤ Rm.cells) (hslots : slots + 3 ≤ Rm.slots)
    (k : Zq p l e Rm s m args below meth c G nL Q (cells + 1) (slots + 3) (z + 1) (va_up K z 9) (va_up N z 3) (va_up I z f) R (pc + 3) lv (.ref z :: st)) : Zq p l e Rm s m args below meth c G nL Q cells slots z K N I R pc lv (.ref t :: st) := fun H locs ls hW hL hl hd => by
  obtain ⟨ht, cell, g1, g2, g3, g4, g5, g6⟩ := hs
  exact zclone C hws (by rw [hW.2.2.1 t ht]; exact g1) g2 g4 g5 g6 d hframes hlocals hcells hslots hW hL hl hd k
theorem z_clone (C : Cx p l e Rm s m args below meth c G cc nL own ret) {i a : Nat} (hws : ∀ w ∈ zclw own i, w ∈ wsL_law) (ha : zK G z K a 9) (d : decode cc pc = .ok (.invokevirtual i, 3)) (hframes : 1 ≤ Rm.frames) (hlocals : (st.map fun v => v.category).sum + 14 ≤ Rm.locals) (hcells : cells + 1 ≤ Rm.cells) (hslots : slots + N a ≤ Rm.slots)
    (k : Zq p l e Rm s m args below meth c G nL Q (cells + 1) (slots + N a) (z + 1) (va_up K z 9) (va_up N z (N a)) (va_up I z (I a)) R (pc + 3) lv (.ref z :: st)) : Zq p l e Rm s m args below meth c G nL Q cells slots z K N I R pc lv (.ref a :: st) := fun H locs ls hW hL hl hd => by
  exact zclone C hws (zwI hW ha) rfl (by rw [va_nm_int (C.2.2.2.2.2.2.2.1.1.2 1 _ rfl).2]; rfl) (by rw [vp_cell_i, arrV_size]) (fun j hj => by rw [vp_cell_i, arrV_read _ _ hj]) d hframes hlocals hcells hslots hW hL hl hd k
theorem z_castA (C : Cx p l e Rm s m args below meth c G cc nL own ret) {i a : Nat} (d : decode cc pc = .ok (.checkcast i, 3)) (hlink : Cond.classLink own i "[I" ∈ wsL_law) (ha : zK G z K a 9)
    (k : Zq p l e Rm s m args below meth c G nL Q cells slots z K N I R (pc + 3) lv (.ref a :: st)) : Zq p l e Rm s m args below meth c G nL Q cells slots z K N I R pc lv (.ref a :: st) := fun H locs ls hW hL hl hd =>
  va_castA (D := G.1) (cl := vwCl) (ws := [(a, .inl (G.2.1 1, N a, .inl (fun j => zI (I a j))))]) C.1 C.2.1 C.2.2.2.1 (C.2.2.2.2.1 _ hlink) (va_P1 (zwI hW ha)) 0 rfl (va_nm_int (C.2.2.2.2.2.2.2.1.1.2 1 _ rfl).2) d (k H locs ls hW hL hl hd)
def zcpy (f g : Nat → Int) (sp dp n : Nat) : Nat → Int := fun k => if dp ≤ k ∧ k < dp + n then f (sp + (k - dp)) else g k
theorem z_acopy (C : Cx p l e Rm s m args below meth c G cc nL own ret) {i a b : Nat} {sp dp n : Int} (hlink : Cond.methodLink own i arraycopyName ∈ wsL_law) (hnat : Cond.native arraycopyName ∈ wsL_law) (hstat : Cond.static arraycopyName ∈ wsL_law) (hini : Cond.initialized "java/lang/System" ∈ wsL_law) (ha : zK G z K a 9) (hb : zK G z K b 9) (h1 : 0 ≤ sp ∧ 0 ≤ dp ∧ 0 ≤ n) (h4 : sp + n ≤ (N a : Int)) (h5 : dp + n ≤ (N b : Int)) (hNa : N a < 2147483648) (hNb : N b < 2147483648) (hframes : 1 ≤ Rm.frames) (hlocals : (st.map fun v => v.category).sum + (nativeFrameWords "java/lang/System" "arraycopy" 5 + 11) ≤ Rm.locals) (d : decode cc pc = .ok (.invokestatic i, 3))
    (k : Zq p l e Rm s m args below meth c G nL Q cells slots z K N (va_up I b (zcpy (I a) (I b) sp.toNat dp.toNat n.toNat)) R (pc + 3) lv st) : Zq p l e Rm s m args below meth c G nL Q cells slots z K N I R pc lv (.int (zI n) :: .int (zI dp) :: .ref b :: .int (zI sp) :: .ref a :: st) := fun H locs ls hW hL hl hd => by
  obtain ⟨s1, s2⟩ := zI_clamp h1.1 (by omega)
  obtain ⟨d1, d2⟩ := zI_clamp h1.2.1 (by omega)
  obtain ⟨n1, n2⟩ := zI_clamp h1.2.2 (by omega)
  have is : (zI sp).toInt = (sp.toNat : Int) := by rw [zI_int ⟨by omega, by omega⟩]; omega
  have id1 : (zI dp).toInt = (dp.toNat : Int) := by rw [zI_int ⟨by omega, by omega⟩]; omega
  have in1 : (zI n).toInt = (n.toNat : Int) := by rw [zI_int ⟨by omega, by omega⟩]; omega
  have hts := C.2.2.2.2.1
  have hc0 := zwI hW ha
  have hc1 := zwI hW hb
  intro T hT X
  obtain ⟨-, k0, hk0, cm0, hkk0⟩ := (C.2.2.2.2.2.2.2.1.1.2 1 _ rfl).1 (N a) (fun j => .int (zI (I a j)))
  obtain ⟨-, k1, hk1, cm1, hkk1⟩ := (C.2.2.2.2.2.2.2.1.1.2 1 _ rfl).1 (N b) (fun j => .int (zI (I b j)))
  obtain ⟨vm', X', step⟩ := X.arraycopy C.1 C.2.2.2.1 (hts _ hlink) (hts _ hnat) (hts _ hstat) (hts _ hini) (src := a) (dst := b) (cs := vp_cell (G.2.1 1) (N a, .inl (fun j => zI (I a j)))) (cd := vp_cell (G.2.1 1) (N b, .inl (fun j => zI (I b j)))) (srcPos := zI sp) (destPos := zI dp) (n := zI n) (by rw [hT]; exact hc0) (by rw [hT]; exact hc1)
    (fun _ h => by cases h) (fun _ h => by cases h) (fun h => by cases h) (fun h => by cases h) hk0 hk1 hkk0 hkk1 (by simp [refKind]) s2 d2 n2
    (by rw [is, in1]; show ¬ _ > ((arrV (G.2.1 1) (N a) (fun j => .int (zI (I a j)))).slots.size : Int); rw [arrV_size]; omega)
    (by rw [id1, in1]; show ¬ _ > ((arrV (G.2.1 1) (N b) (fun j => .int (zI (I b j)))).slots.size : Int); rw [arrV_size]; omega)
    (fun vm₁ _ i hi => by
      rw [n1] at hi
      have e : (vp_cell (G.2.1 1) (N a, .inl (fun j => zI (I a j)))).slots.getD ((zI sp).toNatClampNeg + i) .null = .int (zI (I a (sp.toNat + i))) := by
        show (arrV (G.2.1 1) (N a) (fun j => .int (zI (I a j)))).slots.getD _ _ = _
        rw [Array.getD_eq_getD_getElem?, arrV_read _ _ (by rw [s1]; omega), s1]
        rfl
      refine ⟨?_, ?_⟩
      · rw [e]
        rfl
      · rw [e]
        exact trivial)
    (g := F0 m pc ls (.int (zI n) :: .int (zI dp) :: .ref b :: .int (zI sp) :: .ref a :: st)) rfl (by rw [C.2.2.1]; exact hl.1) (rest := st) rfl (by rw [C.2.1]; exact d) hframes (by show 2 * 0 + _ + _ ≤ _; omega)
  have e1 : copied (vp_cell (G.2.1 1) (N a, .inl (fun j => zI (I a j)))) (vp_cell (G.2.1 1) (N b, .inl (fun j => zI (I b j)))) (zI sp) (zI dp) (zI n) = vp_cell (G.2.1 1) (N b, .inl (va_cpy (fun j => zI (I a j)) (fun j => zI (I b j)) (zI sp).toNatClampNeg (zI dp).toNatClampNeg (zI n).toNatClampNeg)) := va_copied (fun z => .int z) (G.2.1 1) (G.2.1 1) (fun j => zI (I a j)) (fun j => zI (I b j)) (by rw [s1, n1]; omega)
  have e2 : vp_cell (G.2.1 1) (N b, .inl (va_cpy (fun j => zI (I a j)) (fun j => zI (I b j)) (zI sp).toNatClampNeg (zI dp).toNatClampNeg (zI n).toNatClampNeg)) = vp_cell (G.2.1 1) (N b, .inl (fun j => zI (zcpy (I a) (I b) sp.toNat dp.toNat n.toNat j))) := by
    rw [s1, d1, n1]
    congr 2
    congr 1
    funext q
    simp only [va_cpy, zcpy]
    split <;> rfl
  rw [e1, e2] at X' step
  have hlt : b < H.size := (Array.getElem?_eq_some_iff.mp hc1).1
  obtain ⟨t, a1, b1⟩ := k (H.setIfInBounds b (vp_cell (G.2.1 1) (N b, .inl (fun j => zI (zcpy (I a) (I b) sp.toNat dp.toNat n.toNat j))))) _ ls (hW.upd hb.1 (by simp) (fun q hq => by simp [Array.getElem?_setIfInBounds, Ne.symm hq]) (by
      rw [zat_i hb.2.2, va_up_s]
      show (H.setIfInBounds b _)[b]? = some (vp_cell _ _)
      simp [Array.getElem?_setIfInBounds, hlt]) fun q hq => ⟨va_up_n hq, rfl⟩) (fun q hq => by
      rcases List.mem_append.mp hq with h | h
      · exact hL q h
      · obtain ⟨y, -, hy⟩ := List.mem_map.mp h
        rw [← hy]
        exact hb.1) hl hd _ (by rw [← hT]; rfl) X'
  exact ⟨t, step t a1, b1⟩
theorem z_abs (C : Cx p l e Rm s m args below meth c G cc nL own ret) {i : Nat} {x : Int} (hlink : Cond.methodLink own i Lib.Math.abs.name ∈ wsL_law) (hstat : Cond.static Lib.Math.abs.name ∈ wsL_law) (hini : Cond.initialized "java/lang/Math" ∈ wsL_law) (hcode : Cond.code Lib.Math.abs.name Lib.Math.abs.code 1 (some .int) ∈ wsL_law) (hframes : 1 ≤ Rm.frames) (hlocals : (st.map fun v => v.category).sum + 13 ≤ Rm.locals) (hc : cells ≤ Rm.cells) (hs : slots ≤ Rm.slots) (d : decode cc pc = .ok (.invokestatic i, 3)) (hx : -2147483647 ≤ x ∧ x < 2147483648)
    (k : Zq p l e Rm s m args below meth c G nL Q cells slots z K N I R (pc + 3) lv (.int (zI (if 0 ≤ x then x else -x)) :: st)) : Zq p l e Rm s m args below meth c G nL Q cells slots z K N I R pc lv (.int (zI x) :: st) := fun H locs ls hW hL hl hd => by
  have hts := C.2.2.2.2.1
  refine va_mabs C.1 C.2.1 (by rw [C.2.2.1]; exact hl.1.symm) C.2.2.2.1 (hts _ hlink) (hts _ hstat) (hts _ hini) (hts _ hcode) hframes hlocals hc hs d ?_
  have e : (if 0 ≤ zI x then zI x else 0 - zI x) = zI (if 0 ≤ x then x else -x) := by
    have h1 : 0 ≤ zI x ↔ 0 ≤ x := by rw [zI_0]; exact zI_le ⟨by omega, by omega⟩ ⟨by omega, by omega⟩
    by_cases h : 0 ≤ x
    · rw [if_pos h, if_pos (h1.mpr h)]
    · rw [if_neg h, if_neg (fun q => h (h1.mp q)), zI_0, zI_sub]
      congr 1; omega
  rw [e]
  exact k H locs ls hW hL hl hd
theorem z_min (C : Cx p l e Rm s m args below meth c G cc nL own ret) {i : Nat} {x y : Int} (hlink : Cond.methodLink own i Lib.Math.min.name ∈ wsL_law) (hstat : Cond.static Lib.Math.min.name ∈ wsL_law) (hini : Cond.initialized "java/lang/Math" ∈ wsL_law) (hcode : Cond.code Lib.Math.min.name Lib.Math.min.code 2 (some .int) ∈ wsL_law) (hframes : 1 ≤ Rm.frames) (hlocals : (st.map fun v => v.category).sum + 13 ≤ Rm.locals) (hc : cells ≤ Rm.cells) (hs : slots ≤ Rm.slots) (d : decode cc pc = .ok (.invokestatic i, 3)) (hx : -2147483648 ≤ x ∧ x < 2147483648) (hy : -2147483648 ≤ y ∧ y < 2147483648)
    (k : Zq p l e Rm s m args below meth c G nL Q cells slots z K N I R (pc + 3) lv (.int (zI (if y < x then y else x)) :: st)) : Zq p l e Rm s m args below meth c G nL Q cells slots z K N I R pc lv (.int (zI y) :: .int (zI x) :: st) := fun H locs ls hW hL hl hd => by
  have hts := C.2.2.2.2.1
  refine va_mmin C.1 C.2.1 (by rw [C.2.2.1]; exact hl.1.symm) C.2.2.2.1 (hts _ hlink) (hts _ hstat) (hts _ hini) (hts _ hcode) hframes hlocals hc hs d ?_
  have e : (if zI y < zI x then zI y else zI x) = zI (if y < x then y else x) := by
    by_cases h : y < x
    · rw [if_pos h, if_pos ((zI_lt hy hx).mpr h)]
    · rw [if_neg h, if_neg (fun q => h ((zI_lt hy hx).mp q))]
  rw [e]
  exact k H locs ls hW hL hl hd
theorem z_objInit (C : Cx p l e Rm s m args below meth c G cc nL own ret) {i a : Nat} (hlink : Cond.methodLink own i objectInit ∈ wsL_law) (hinst : Cond.instanceMethod objectInit ∈ wsL_law) (hcode : Cond.code objectInit ⟨#[0xb1]⟩ 1 none ∈ wsL_law) (d : decode cc pc = .ok (.invokespecial i, 3)) (hframes : 1 ≤ Rm.frames) (hlocals : (st.map fun v => v.category).sum + 12 ≤ Rm.locals)
    (k : Zq p l e Rm s m args below meth c G nL Q cells slots z K N I R (pc + 3) lv st) : Zq p l e Rm s m args below meth c G nL Q cells slots z K N I R pc lv (.ref a :: st) := fun H locs ls hW hL hl hd =>
  W.objInit C.1 C.2.1 C.2.2.2.1 (C.2.2.2.2.1 _ hlink) (C.2.2.2.2.1 _ hinst) (C.2.2.2.2.1 _ hcode) rfl (by rw [C.2.2.1]; exact hl.1) rfl d hframes (by show 2 * 0 + _ + 12 ≤ _; omega) (k H locs ls hW hL hl hd)
theorem z_after (C : Cx p l e Rm s m args below meth c G cc nL own ret) {st0 : List Value} {mc ms : Nat} {a0 : Array Value} {P : Option Value → Nat → (Nat → Nat) → (Nat → Nat) → MI → MR → Prop} {H : Heap} {locs : List Loc} {ls : Array Slot}
    (hr : va_Run p l e Rm s m args below meth c H locs cells slots mc ms (F0 m pc ls st0) st ((fun (_ : Array Value) (_ : State) (oc : Outcome) (t : State) => ∃ (r : Option Value) (z' : Nat) (K' N' : Nat → Nat) (I' : MI) (R' : MR), oc = .returned r ∧ P r z' K' N' I' R' ∧ Wh G z' K' N' I' R' t.heap) a0) (fun q => G.2.2.size ≤ q))
    (hL : ∀ q ∈ locs, G.2.2.size ≤ q.base) (hl : lv_has ls nL lv) (hd : lvd lv = true)
    (kk : ∀ (r : Option Value) (z' : Nat) (K' N' : Nat → Nat) (I' : MI) (R' : MR), P r z' K' N' I' R' → Zq p l e Rm s m args below meth c G nL Q (cells + mc) (slots + ms) z' K' N' I' R' (pc + 3) lv (zpush r st)) : W p l e Rm s m args below meth c H locs cells slots Q (F0 m pc ls st0) := by
  intro T hT X
  obtain ⟨v, st₀, t, T', L, h0, X', hL', e1, e2, ⟨r, z', K', N', I', R', hv, hp, hb⟩, stp⟩ := hr T hT X
  cases hv
  obtain ⟨t2, a1, b1⟩ := kk v z' K' N' I' R' hp T'.heap (locs ++ L) ls (by rw [e1]; exact hb) (fun q hq => by
      rcases List.mem_append.mp hq with h | h
      · exact hL q h
      · exact hL' q h) hl hd T' rfl X'
  rw [zpush_eq] at a1
  exact ⟨t2, stp t2 a1, b1⟩
theorem zblind {av : List Value} : FrameBlind (va_Pc av (fun U => Wv G U ∧ Wh G z K N I R U.heap)) := fun _ _ _ _ h => ⟨h.1, h.2.1.calling, h.2.2⟩
theorem zpre (C : Cx p l e Rm s m args below meth c G cc nL own ret) {av : List Value} {H : Heap} (hW : Wh G z K N I R H) : ∀ U : State, U.heap = H → s.WarmedH U.vm → (va_Pc av (fun U => Wv G U ∧ Wh G z K N I R U.heap)) av.toArray U := fun U hU hw => ⟨rfl, C.2.2.2.2.2.2.2.1.warm hw, by rw [hU]; exact hW⟩
theorem zfix (C : Cx p l e Rm s m args below meth c G cc nL own ret) : CallFix p m c cc nL s args wsL_law own := ⟨C.1, C.2.1, C.2.2.1, C.2.2.2.1, C.2.2.2.2.1⟩

theorem z_callV (C : Cx p l e Rm s m args below meth c G cc nL own ret) {st0 : List Value} {y : MethodName} {bytes : ByteArray} {maxL mc ms n i : Nat} {rt : Option FieldType} {ws : List Cond} {rm : Room} {As : List Value} {P : Option Value → Nat → (Nat → Nat) → (Nat → Nat) → MI → MR → Prop} {ci b N0 : Nat} {C0 : String} {T0 : u_T} (hc : vwCl[ci]? = some (C0, T0, N0)) (h8 : ci < 8) (hb : zK G z K b ci) (hC : Con l G y ws rm mc ms (.ref b :: As) z K N I R P) (cw : CallW Rm s args own C0 i y bytes maxL rt ws rm mc ms n) (hn : As.length = n) (hst : st0 = zst (.ref b :: As) st) (hWd : (st.map fun v => v.category).sum ≤ 8) (d : decode cc pc = .ok (.invokevirtual i, 3)) (hf : cells + mc ≤ Rm.cells ∧ slots + ms ≤ Rm.slots)
    (kk : ∀ (r : Option Value) (z' : Nat) (K' N' : Nat → Nat) (I' : MI) (R' : MR), P r z' K' N' I' R' → Zq p l e Rm s m args below meth c G nL Q (cells + mc) (slots + ms) z' K' N' I' R' (pc + 3) lv (zpush r st)) : Zq p l e Rm s m args below meth c G nL Q cells slots z K N I R pc lv st0 := fun H locs ls hW hL hl hd => by
  have hst2 : st0 = As.reverse ++ .ref b :: st := by rw [hst, zst_eq]; simp
  exact z_after C (a0 := (Value.ref b :: As).toArray) (va_runV (zfix C) hC cw ⟨zblind, (by
      have h := hW.2.2.2 b hb.1 hb.2.1
      rw [zat_o hb.2.2 h8] at h
      exact va_recv (ws := [(b, .inr (ci, zfs ci I R b))]) (q0 := 0) C.2.2.2.2.2.2.2.1.1 (va_P1 h) hc rfl), zpre C hW⟩ rfl hn hl.1 hst2 (lv_room hWd) d hf) hL hl hd kk
theorem z_callVd (C : Cx p l e Rm s m args below meth c G cc nL own ret) {st0 : List Value} {y : MethodName} {bytes : ByteArray} {maxL n i : Nat} {rt : Option FieldType} {ws : List Cond} {rm : Room} {As : List Value}  {ci b N0 : Nat} {C0 : String} {T0 : u_T} (hc : vwCl[ci]? = some (C0, T0, N0)) (h8 : ci < 8) (hb : zK G z K b ci) {r0 : Option Value} {I0 : MI} {R0 : MR} (hC : Cod l G y ws rm (.ref b :: As) z K N I R r0 I0 R0) (cw : CallW Rm s args own C0 i y bytes maxL rt ws rm 0 0 n) (hn : As.length = n) (hst : st0 = zst (.ref b :: As) st) (hWd : (st.map fun v => v.category).sum ≤ 8) (d : decode cc pc = .ok (.invokevirtual i, 3)) (hf : cells ≤ Rm.cells ∧ slots ≤ Rm.slots)
    (k : Zq p l e Rm s m args below meth c G nL Q cells slots z K N I0 R0 (pc + 3) lv (zpush r0 st)) : Zq p l e Rm s m args below meth c G nL Q cells slots z K N I R pc lv st0 :=
  z_callV C hc h8 hb hC cw hn hst hWd d hf fun r z' K' N' I' R' ⟨e1, e2, e3, e4, e5, e6⟩ => by
    subst e1; subst e2; subst e3; subst e4; subst e5; subst e6; exact k
theorem z_callS (C : Cx p l e Rm s m args below meth c G cc nL own ret) {st0 : List Value} {y : MethodName} {bytes : ByteArray} {maxL mc ms n i : Nat} {rt : Option FieldType} {ws : List Cond} {rm : Room} {As : List Value} {P : Option Value → Nat → (Nat → Nat) → (Nat → Nat) → MI → MR → Prop} (hC : Con l G y ws rm mc ms As z K N I R P) (cw : CallB Rm s args own i y bytes maxL rt ws rm mc ms n ∧ (Cond.static y).before args s = true) (hn : As.length = n) (hst : st0 = zst As st) (hWd : (st.map fun v => v.category).sum ≤ 8) (d : decode cc pc = .ok (.invokestatic i, 3)) (hf : cells + mc ≤ Rm.cells ∧ slots + ms ≤ Rm.slots)
    (kk : ∀ (r : Option Value) (z' : Nat) (K' N' : Nat → Nat) (I' : MI) (R' : MR), P r z' K' N' I' R' → Zq p l e Rm s m args below meth c G nL Q (cells + mc) (slots + ms) z' K' N' I' R' (pc + 3) lv (zpush r st)) : Zq p l e Rm s m args below meth c G nL Q cells slots z K N I R pc lv st0 := fun H locs ls hW hL hl hd => by
  have hst2 : st0 = As.reverse ++ st := by rw [hst, zst_eq]
  exact z_after C (a0 := (As).toArray) (va_runS (zfix C) hC cw ⟨zblind, zpre C hW⟩ rfl hn hl.1 hst2 (lv_room hWd) d hf) hL hl hd kk
theorem z_callSd (C : Cx p l e Rm s m args below meth c G cc nL own ret) {st0 : List Value} {y : MethodName} {bytes : ByteArray} {maxL n i : Nat} {rt : Option FieldType} {ws : List Cond} {rm : Room} {As : List Value}  {r0 : Option Value} {I0 : MI} {R0 : MR} (hC : Cod l G y ws rm As z K N I R r0 I0 R0) (cw : CallB Rm s args own i y bytes maxL rt ws rm 0 0 n ∧ (Cond.static y).before args s = true) (hn : As.length = n) (hst : st0 = zst As st) (hWd : (st.map fun v => v.category).sum ≤ 8) (d : decode cc pc = .ok (.invokestatic i, 3)) (hf : cells ≤ Rm.cells ∧ slots ≤ Rm.slots)
    (k : Zq p l e Rm s m args below meth c G nL Q cells slots z K N I0 R0 (pc + 3) lv (zpush r0 st)) : Zq p l e Rm s m args below meth c G nL Q cells slots z K N I R pc lv st0 :=
  z_callS C hC cw hn hst hWd d hf fun r z' K' N' I' R' ⟨e1, e2, e3, e4, e5, e6⟩ => by
    subst e1; subst e2; subst e3; subst e4; subst e5; subst e6; exact k
theorem z_callI (C : Cx p l e Rm s m args below meth c G cc nL own ret) {st0 : List Value} {y : MethodName} {bytes : ByteArray} {maxL mc ms n i : Nat} {ws : List Cond} {rm : Room} {As : List Value} {P : Option Value → Nat → (Nat → Nat) → (Nat → Nat) → MI → MR → Prop} {b : Nat} (hC : Con l G y ws rm mc ms (.ref b :: As) z K N I R P) (cw : CallB Rm s args own i y bytes maxL none ws rm mc ms n ∧ y.name = "<init>" ∧ (Cond.instanceMethod y).before args s = true) (hn : As.length = n) (hst : st0 = zst (.ref b :: As) st) (hWd : (st.map fun v => v.category).sum ≤ 8) (d : decode cc pc = .ok (.invokespecial i, 3)) (hf : cells + mc ≤ Rm.cells ∧ slots + ms ≤ Rm.slots)
    (kk : ∀ (r : Option Value) (z' : Nat) (K' N' : Nat → Nat) (I' : MI) (R' : MR), P r z' K' N' I' R' → Zq p l e Rm s m args below meth c G nL Q (cells + mc) (slots + ms) z' K' N' I' R' (pc + 3) lv (zpush r st)) : Zq p l e Rm s m args below meth c G nL Q cells slots z K N I R pc lv st0 := fun H locs ls hW hL hl hd => by
  have hst2 : st0 = As.reverse ++ .ref b :: st := by rw [hst, zst_eq]; simp
  exact z_after C (a0 := (Value.ref b :: As).toArray) (va_runI (zfix C) hC cw ⟨zblind, zpre C hW⟩ rfl hn hl.1 hst2 (lv_room hWd) d hf) hL hl hd kk
theorem z_callId (C : Cx p l e Rm s m args below meth c G cc nL own ret) {st0 : List Value} {y : MethodName} {bytes : ByteArray} {maxL n i : Nat} {ws : List Cond} {rm : Room} {As : List Value}  {b : Nat} {r0 : Option Value} {I0 : MI} {R0 : MR} (hC : Cod l G y ws rm (.ref b :: As) z K N I R r0 I0 R0) (cw : CallB Rm s args own i y bytes maxL none ws rm 0 0 n ∧ y.name = "<init>" ∧ (Cond.instanceMethod y).before args s = true) (hn : As.length = n) (hst : st0 = zst (.ref b :: As) st) (hWd : (st.map fun v => v.category).sum ≤ 8) (d : decode cc pc = .ok (.invokespecial i, 3)) (hf : cells ≤ Rm.cells ∧ slots ≤ Rm.slots)
    (k : Zq p l e Rm s m args below meth c G nL Q cells slots z K N I0 R0 (pc + 3) lv (zpush r0 st)) : Zq p l e Rm s m args below meth c G nL Q cells slots z K N I R pc lv st0 :=
  z_callI C hC cw hn hst hWd d hf fun r z' K' N' I' R' ⟨e1, e2, e3, e4, e5, e6⟩ => by
    subst e1; subst e2; subst e3; subst e4; subst e5; subst e6; exact k
theorem z_callSN (C : Cx p l e Rm s m args below meth c G cc nL own ret) {st0 : List Value} {y : MethodName} {bytes : ByteArray} {maxL mc ms n i : Nat} {rt : Option FieldType} {ws : List Cond} {rm : Room} {As : List Value} {P : Option Value → Nat → (Nat → Nat) → (Nat → Nat) → MI → MR → Prop} {host : String} (hC : Con l G y ws rm mc ms As z K N I R P) (cw : va_CN Rm s args own i y host bytes maxL rt ws rm mc ms n ∧ (Cond.static y).before args s = true ∧ True) (hn : As.length = n) (hst : st0 = zst As st) (hWd : (st.map fun v => v.category).sum ≤ 8) (d : decode cc pc = .ok (.invokestatic i, 3)) (hf : cells + mc ≤ Rm.cells ∧ slots + ms ≤ Rm.slots)
    (kk : ∀ (r : Option Value) (z' : Nat) (K' N' : Nat → Nat) (I' : MI) (R' : MR), P r z' K' N' I' R' → Zq p l e Rm s m args below meth c G nL Q (cells + mc) (slots + ms) z' K' N' I' R' (pc + 3) lv (zpush r st)) : Zq p l e Rm s m args below meth c G nL Q cells slots z K N I R pc lv st0 := fun H locs ls hW hL hl hd => by
  have hst2 : st0 = As.reverse ++ st := by rw [hst, zst_eq]
  exact z_after C (a0 := (As).toArray) (va_runSN (zfix C) hC cw ⟨zblind, zpre C hW⟩ rfl hn hl.1 hst2 (lv_room hWd) d hf) hL hl hd kk
theorem z_callSNd (C : Cx p l e Rm s m args below meth c G cc nL own ret) {st0 : List Value} {y : MethodName} {bytes : ByteArray} {maxL n i : Nat} {rt : Option FieldType} {ws : List Cond} {rm : Room} {As : List Value}  {host : String} {r0 : Option Value} {I0 : MI} {R0 : MR} (hC : Cod l G y ws rm As z K N I R r0 I0 R0) (cw : va_CN Rm s args own i y host bytes maxL rt ws rm 0 0 n ∧ (Cond.static y).before args s = true ∧ True) (hn : As.length = n) (hst : st0 = zst As st) (hWd : (st.map fun v => v.category).sum ≤ 8) (d : decode cc pc = .ok (.invokestatic i, 3)) (hf : cells ≤ Rm.cells ∧ slots ≤ Rm.slots)
    (k : Zq p l e Rm s m args below meth c G nL Q cells slots z K N I0 R0 (pc + 3) lv (zpush r0 st)) : Zq p l e Rm s m args below meth c G nL Q cells slots z K N I R pc lv st0 :=
  z_callSN C hC cw hn hst hWd d hf fun r z' K' N' I' R' ⟨e1, e2, e3, e4, e5, e6⟩ => by
    subst e1; subst e2; subst e3; subst e4; subst e5; subst e6; exact k
theorem z_callIN (C : Cx p l e Rm s m args below meth c G cc nL own ret) {st0 : List Value} {y : MethodName} {bytes : ByteArray} {maxL mc ms n i : Nat} {ws : List Cond} {rm : Room} {As : List Value} {P : Option Value → Nat → (Nat → Nat) → (Nat → Nat) → MI → MR → Prop} {host : String} {b : Nat} (hC : Con l G y ws rm mc ms (.ref b :: As) z K N I R P) (cw : va_CN Rm s args own i y host bytes maxL none ws rm mc ms n ∧ y.name = "<init>" ∧ (Cond.instanceMethod y).before args s = true) (hn : As.length = n) (hst : st0 = zst (.ref b :: As) st) (hWd : (st.map fun v => v.category).sum ≤ 8) (d : decode cc pc = .ok (.invokespecial i, 3)) (hf : cells + mc ≤ Rm.cells ∧ slots + ms ≤ Rm.slots)
    (kk : ∀ (r : Option Value) (z' : Nat) (K' N' : Nat → Nat) (I' : MI) (R' : MR), P r z' K' N' I' R' → Zq p l e Rm s m args below meth c G nL Q (cells + mc) (slots + ms) z' K' N' I' R' (pc + 3) lv (zpush r st)) : Zq p l e Rm s m args below meth c G nL Q cells slots z K N I R pc lv st0 := fun H locs ls hW hL hl hd => by
  have hst2 : st0 = As.reverse ++ .ref b :: st := by rw [hst, zst_eq]; simp
  exact z_after C (a0 := (Value.ref b :: As).toArray) (va_runIN (zfix C) hC cw ⟨zblind, zpre C hW⟩ rfl hn hl.1 hst2 (lv_room hWd) d hf) hL hl hd kk
theorem z_callINd (C : Cx p l e Rm s m args below meth c G cc nL own ret) {st0 : List Value} {y : MethodName} {bytes : ByteArray} {maxL n i : Nat} {ws : List Cond} {rm : Room} {As : List Value}  {host : String} {b : Nat} {r0 : Option Value} {I0 : MI} {R0 : MR} (hC : Cod l G y ws rm (.ref b :: As) z K N I R r0 I0 R0) (cw : va_CN Rm s args own i y host bytes maxL none ws rm 0 0 n ∧ y.name = "<init>" ∧ (Cond.instanceMethod y).before args s = true) (hn : As.length = n) (hst : st0 = zst (.ref b :: As) st) (hWd : (st.map fun v => v.category).sum ≤ 8) (d : decode cc pc = .ok (.invokespecial i, 3)) (hf : cells ≤ Rm.cells ∧ slots ≤ Rm.slots)
    (k : Zq p l e Rm s m args below meth c G nL Q cells slots z K N I0 R0 (pc + 3) lv (zpush r0 st)) : Zq p l e Rm s m args below meth c G nL Q cells slots z K N I R pc lv st0 :=
  z_callIN C hC cw hn hst hWd d hf fun r z' K' N' I' R' ⟨e1, e2, e3, e4, e5, e6⟩ => by
    subst e1; subst e2; subst e3; subst e4; subst e5; subst e6; exact k
theorem z_widen {k n : Nat} (h1 : cells ≤ k) (h2 : slots ≤ n) (kk : Zq p l e Rm s m args below meth c G nL Q k n z K N I R pc lv st) : Zq p l e Rm s m args below meth c G nL Q cells slots z K N I R pc lv st := fun H locs ls hW hL hl hd => W.widen h1 h2 (kk H locs ls hW hL hl hd)
abbrev zQ (p : Program) (l : Launch) (e : Env) (Rm : Room) (s : State) (m : MethodId) (args : Array Value) (below : List Frame) (meth : Method) (c : Code) (G : GG) (P : Option Value → Nat → (Nat → Nat) → (Nat → Nat) → MI → MR → Prop) (mc ms : Nat) : State → Prop := MQ below (fun _ _ oc t => ∃ (r : Option Value) (z' : Nat) (K' N' : Nat → Nat) (I' : MI) (R' : MR), oc = .returned r ∧ P r z' K' N' I' R' ∧ Wh G z' K' N' I' R' t.heap) args s mc ms (fun q => G.2.2.size ≤ q)
theorem z_iret (C : Cx p l e Rm s m args below meth c G cc nL own ret) {P : Option Value → Nat → (Nat → Nat) → (Nat → Nat) → MI → MR → Prop} {x : Int} (hr : ret = some .int) (d : decode cc pc = .ok (.ireturn, 1)) (hp : P (some (.int (zI x))) z K N I R) : Zq p l e Rm s m args below meth c G nL (zQ p l e Rm s m args below meth c G P cells slots) cells slots z K N I R pc lv [.int (zI x)] := fun H locs ls hW hL hl hd =>
  W.iret C.1 C.2.1 (by rw [C.2.2.2.2.2.2.1, hr]) (fun t ht _ => ⟨_, _, _, _, _, _, rfl, hp, by rw [ht]; exact hW⟩) hL d C.2.2.2.2.2.1
theorem z_zret (C : Cx p l e Rm s m args below meth c G cc nL own ret) {P : Option Value → Nat → (Nat → Nat) → (Nat → Nat) → MI → MR → Prop} {x : Int} (hr : ret = some .boolean) (hx : x = 0 ∨ x = 1) (d : decode cc pc = .ok (.ireturn, 1)) (hp : P (some (.int (zI x))) z K N I R) : Zq p l e Rm s m args below meth c G nL (zQ p l e Rm s m args below meth c G P cells slots) cells slots z K N I R pc lv [.int (zI x)] := fun H locs ls hW hL hl hd =>
  W.zret (ty := .boolean) C.1 C.2.1 (by rw [C.2.2.2.2.2.2.1, hr]) (by rcases hx with e | e <;> subst e <;> decide +kernel) (fun t ht _ => ⟨_, _, _, _, _, _, rfl, hp, by rw [ht]; exact hW⟩) hL d C.2.2.2.2.2.1
theorem z_vret (C : Cx p l e Rm s m args below meth c G cc nL own ret) {P : Option Value → Nat → (Nat → Nat) → (Nat → Nat) → MI → MR → Prop} (hr : ret = none) (d : decode cc pc = .ok (.return_, 1)) (hp : P none z K N I R) : Zq p l e Rm s m args below meth c G nL (zQ p l e Rm s m args below meth c G P cells slots) cells slots z K N I R pc lv [] := fun H locs ls hW hL hl hd =>
  W.vret C.1 C.2.1 (by rw [C.2.2.2.2.2.2.1, hr]) (fun t ht _ => ⟨_, _, _, _, _, _, rfl, hp, by rw [ht]; exact hW⟩) hL d C.2.2.2.2.2.1
theorem z_aret (C : Cx p l e Rm s m args below meth c G cc nL own ret) {P : Option Value → Nat → (Nat → Nat) → (Nat → Nat) → MI → MR → Prop} {rt : FieldType} {r : Option Nat} (hr : ret = some rt) (hrt : (∃ n, rt = .object n) ∨ ∃ t, rt = .array t) (d : decode cc pc = .ok (.areturn, 1)) (hp : P (some (va_rf r)) z K N I R) : Zq p l e Rm s m args below meth c G nL (zQ p l e Rm s m args below meth c G P cells slots) cells slots z K N I R pc lv [va_rf r] := fun H locs ls hW hL hl hd =>
  W.aret (rt := rt) C.1 C.2.1 (by rw [C.2.2.2.2.2.2.1, hr]) hrt (by cases r with | none => exact Or.inl rfl | some a => exact Or.inr ⟨a, rfl⟩) (fun t ht _ => ⟨_, _, _, _, _, _, rfl, hp, by rw [ht]; exact hW⟩) hL d C.2.2.2.2.2.1

/-- a contract, from the walk of the method's body -/
theorem Con.of {G : GG} {l : Launch} {y : MethodName} {ws : List Cond} {rm : Room} {mc ms : Nat} {av : List Value} {z : Nat} {K N : Nat → Nat} {I : MI} {R : MR} {P : Option Value → Nat → (Nat → Nat) → (Nat → Nat) → MI → MR → Prop} {cc : ByteArray} {maxL : Nat} {ret : Option FieldType} (hy : plainName y.cls = true) (hw : ws = Cond.code y cc maxL ret :: wsL_law) (hm : (lg_sl av).length ≤ maxL) (h16 : maxL < 2 ^ 16) (hd : lvd (lv_args 0 av) = true)
    (body : ∀ (p : Program) (e : Env) (s : State) (m : MethodId) (args : Array Value) (below : List Frame) (meth : Method) (c : Code), (y.name = "<init>" → meth.name = "<init>") → Cx p l e rm s m args below meth c G cc maxL y.cls ret → Zq p l e rm s m args below meth c G maxL (zQ p l e rm s m args below meth c G P mc ms) 0 0 z K N I R 0 (lv_args 0 av) []) : Con l G y ws rm mc ms av z K N I R P := by
  refine Met.ofW (cc := cc) (maxL := maxL) (ret := ret) hy hw ?_
  intro p e s m args below meth c s₁ B hml hv
  obtain ⟨rfl, hWv, hWh⟩ := hv
  have hown : s.vm.findClass y.cls = some m.cls := findClass_of_methodNamed B.named
  have hts0 := atoms_spec (ws := ws) B.pre
  have hts : ∀ w ∈ wsL_law, w.before av.toArray s = true := fun w h => hts0 w (by rw [hw]; exact List.mem_cons_of_mem _ h)
  have hname := (name_of_methodNamed B.named B.method).1
  have hl := lv_entry av (n := maxL) hm
  rw [lg_entry_eq]
  exact body p e s m av.toArray below meth c (fun h => by rw [hname]; exact h) ⟨B.exec, B.bytes, hml, hown, hts, B.notSynchronized, B.returns, hWv, h16⟩ s.heap [] _ hWh (fun q h => by cases h) hl hd
end ZR
end
