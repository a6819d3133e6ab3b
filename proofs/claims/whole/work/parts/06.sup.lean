theorem hd_J6_bitCount_0f7a4 : yJ6_bitCount_0f7a4.cls = RJ6 ∧ yJ6_bitCount_0f7a4.cls ≠ "java/lang/invoke/MethodHandle" ∧ yJ6_bitCount_0f7a4.cls ≠ "java/lang/invoke/VarHandle" ∧ (parseMethodDescriptor yJ6_bitCount_0f7a4.desc).map (fun d => d.parameters.length) = some 1 := by decide +kernel
theorem hs_J6_bitCount_0f7a4 : yJ6_bitCount_0f7a4.cls ≠ "java/lang/invoke/MethodHandle" ∧ yJ6_bitCount_0f7a4.cls ≠ "java/lang/invoke/VarHandle" ∧ (parseMethodDescriptor yJ6_bitCount_0f7a4.desc).map (fun d => d.parameters.length) = some 1 := hd_J6_bitCount_0f7a4.2
theorem gn_J6_bitCount_0f7a4 : GoodIn wsL_law (Cond.code yJ6_bitCount_0f7a4 cJ6_bitCount_0f7a4 1 (some .int) :: wsL_law) := w0_C wq_23_8
theorem hd_J7_copyOf_59c91 : yJ7_copyOf_59c91.cls = RJ7 ∧ yJ7_copyOf_59c91.cls ≠ "java/lang/invoke/MethodHandle" ∧ yJ7_copyOf_59c91.cls ≠ "java/lang/invoke/VarHandle" ∧ (parseMethodDescriptor yJ7_copyOf_59c91.desc).map (fun d => d.parameters.length) = some 2 := by decide +kernel
theorem hs_J7_copyOf_59c91 : yJ7_copyOf_59c91.cls ≠ "java/lang/invoke/MethodHandle" ∧ yJ7_copyOf_59c91.cls ≠ "java/lang/invoke/VarHandle" ∧ (parseMethodDescriptor yJ7_copyOf_59c91.desc).map (fun d => d.parameters.length) = some 2 := hd_J7_copyOf_59c91.2
theorem gn_J7_copyOf_59c91 : GoodIn wsL_law (Cond.code yJ7_copyOf_59c91 cJ7_copyOf_59c91 3 (some (.array .int)) :: wsL_law) := w0_C wq_18_8
theorem hd_X0_init : yX0_init.cls = RX0 ∧ yX0_init.cls ≠ "java/lang/invoke/MethodHandle" ∧ yX0_init.cls ≠ "java/lang/invoke/VarHandle" ∧ (parseMethodDescriptor yX0_init.desc).map (fun d => d.parameters.length) = some 2 := by decide +kernel
theorem hs_X0_init : yX0_init.cls ≠ "java/lang/invoke/MethodHandle" ∧ yX0_init.cls ≠ "java/lang/invoke/VarHandle" ∧ (parseMethodDescriptor yX0_init.desc).map (fun d => d.parameters.length) = some 2 := hd_X0_init.2
theorem gn_X0_init : GoodIn wsL_law (Cond.code yX0_init cX0_init 3 none :: wsL_law) := w0_C wq_17_21
theorem hd_X1_begin : yX1_begin.cls = RX1 ∧ yX1_begin.cls ≠ "java/lang/invoke/MethodHandle" ∧ yX1_begin.cls ≠ "java/lang/invoke/VarHandle" ∧ (parseMethodDescriptor yX1_begin.desc).map (fun d => d.parameters.length) = some 3 := by decide +kernel
theorem hs_X1_begin : yX1_begin.cls ≠ "java/lang/invoke/MethodHandle" ∧ yX1_begin.cls ≠ "java/lang/invoke/VarHandle" ∧ (parseMethodDescriptor yX1_begin.desc).map (fun d => d.parameters.length) = some 3 := hd_X1_begin.2
theorem gn_X1_begin : GoodIn wsL_law (Cond.code yX1_begin cX1_begin 4 none :: wsL_law) := w0_C wq_14_14
theorem hd_X1_copyFrom : yX1_copyFrom.cls = RX1 ∧ yX1_copyFrom.cls ≠ "java/lang/invoke/MethodHandle" ∧ yX1_copyFrom.cls ≠ "java/lang/invoke/VarHandle" ∧ (parseMethodDescriptor yX1_copyFrom.desc).map (fun d => d.parameters.length) = some 1 := by decide +kernel
theorem hs_X1_copyFrom : yX1_copyFrom.cls ≠ "java/lang/invoke/MethodHandle" ∧ yX1_copyFrom.cls ≠ "java/lang/invoke/VarHandle" ∧ (parseMethodDescriptor yX1_copyFrom.desc).map (fun d => d.parameters.length) = some 1 := hd_X1_copyFrom.2
theorem gn_X1_copyFrom : GoodIn wsL_law (Cond.code yX1_copyFrom cX1_copyFrom 2 none :: wsL_law) := w0_C wq_5_9
theorem hd_X1_follow : yX1_follow.cls = RX1 ∧ yX1_follow.cls ≠ "java/lang/invoke/MethodHandle" ∧ yX1_follow.cls ≠ "java/lang/invoke/VarHandle" ∧ (parseMethodDescriptor yX1_follow.desc).map (fun d => d.parameters.length) = some 1 := by decide +kernel
theorem hs_X1_follow : yX1_follow.cls ≠ "java/lang/invoke/MethodHandle" ∧ yX1_follow.cls ≠ "java/lang/invoke/VarHandle" ∧ (parseMethodDescriptor yX1_follow.desc).map (fun d => d.parameters.length) = some 1 := hd_X1_follow.2
theorem gn_X1_follow : GoodIn wsL_law (Cond.code yX1_follow cX1_follow 4 none :: wsL_law) := w0_C wq_7_3
theorem hd_X1_init : yX1_init.cls = RX1 ∧ yX1_init.cls ≠ "java/lang/invoke/MethodHandle" ∧ yX1_init.cls ≠ "java/lang/invoke/VarHandle" ∧ (parseMethodDescriptor yX1_init.desc).map (fun d => d.parameters.length) = some 0 := by decide +kernel
theorem hs_X1_init : yX1_init.cls ≠ "java/lang/invoke/MethodHandle" ∧ yX1_init.cls ≠ "java/lang/invoke/VarHandle" ∧ (parseMethodDescriptor yX1_init.desc).map (fun d => d.parameters.length) = some 0 := hd_X1_init.2
theorem gn_X1_init : GoodIn wsL_law (Cond.code yX1_init cX1_init 1 none :: wsL_law) := w0_C wq_3_0
theorem hd_X1_shown : yX1_shown.cls = RX1 ∧ yX1_shown.cls ≠ "java/lang/invoke/MethodHandle" ∧ yX1_shown.cls ≠ "java/lang/invoke/VarHandle" ∧ (parseMethodDescriptor yX1_shown.desc).map (fun d => d.parameters.length) = some 0 := by decide +kernel
theorem hs_X1_shown : yX1_shown.cls ≠ "java/lang/invoke/MethodHandle" ∧ yX1_shown.cls ≠ "java/lang/invoke/VarHandle" ∧ (parseMethodDescriptor yX1_shown.desc).map (fun d => d.parameters.length) = some 0 := hd_X1_shown.2
theorem gn_X1_shown : GoodIn wsL_law (Cond.code yX1_shown cX1_shown 1 (some .int) :: wsL_law) := w0_C wq_17_18
theorem hd_X1_tell : yX1_tell.cls = RX1 ∧ yX1_tell.cls ≠ "java/lang/invoke/MethodHandle" ∧ yX1_tell.cls ≠ "java/lang/invoke/VarHandle" ∧ (parseMethodDescriptor yX1_tell.desc).map (fun d => d.parameters.length) = some 1 := by decide +kernel
theorem hs_X1_tell : yX1_tell.cls ≠ "java/lang/invoke/MethodHandle" ∧ yX1_tell.cls ≠ "java/lang/invoke/VarHandle" ∧ (parseMethodDescriptor yX1_tell.desc).map (fun d => d.parameters.length) = some 1 := hd_X1_tell.2
theorem gn_X1_tell : GoodIn wsL_law (Cond.code yX1_tell cX1_tell 2 (some .int) :: wsL_law) := w0_C wq_20_14
theorem hd_X2_init : yX2_init.cls = RX2 ∧ yX2_init.cls ≠ "java/lang/invoke/MethodHandle" ∧ yX2_init.cls ≠ "java/lang/invoke/VarHandle" ∧ (parseMethodDescriptor yX2_init.desc).map (fun d => d.parameters.length) = some 0 := by decide +kernel
theorem hs_X2_init : yX2_init.cls ≠ "java/lang/invoke/MethodHandle" ∧ yX2_init.cls ≠ "java/lang/invoke/VarHandle" ∧ (parseMethodDescriptor yX2_init.desc).map (fun d => d.parameters.length) = some 0 := hd_X2_init.2
theorem gn_X2_init : GoodIn wsL_law (Cond.code yX2_init cX2_init 2 none :: wsL_law) := w0_C wq_3_4
theorem hd_X2_remember : yX2_remember.cls = RX2 ∧ yX2_remember.cls ≠ "java/lang/invoke/MethodHandle" ∧ yX2_remember.cls ≠ "java/lang/invoke/VarHandle" ∧ (parseMethodDescriptor yX2_remember.desc).map (fun d => d.parameters.length) = some 1 := by decide +kernel
theorem hs_X2_remember : yX2_remember.cls ≠ "java/lang/invoke/MethodHandle" ∧ yX2_remember.cls ≠ "java/lang/invoke/VarHandle" ∧ (parseMethodDescriptor yX2_remember.desc).map (fun d => d.parameters.length) = some 1 := hd_X2_remember.2
theorem gn_X2_remember : GoodIn wsL_law (Cond.code yX2_remember cX2_remember 2 none :: wsL_law) := w0_C wq_4_17
theorem hd_X2_settle : yX2_settle.cls = RX2 ∧ yX2_settle.cls ≠ "java/lang/invoke/MethodHandle" ∧ yX2_settle.cls ≠ "java/lang/invoke/VarHandle" ∧ (parseMethodDescriptor yX2_settle.desc).map (fun d => d.parameters.length) = some 1 := by decide +kernel
theorem hs_X2_settle : yX2_settle.cls ≠ "java/lang/invoke/MethodHandle" ∧ yX2_settle.cls ≠ "java/lang/invoke/VarHandle" ∧ (parseMethodDescriptor yX2_settle.desc).map (fun d => d.parameters.length) = some 1 := hd_X2_settle.2
theorem gn_X2_settle : GoodIn wsL_law (Cond.code yX2_settle cX2_settle 2 (some .int) :: wsL_law) := w0_C wq_7_11
theorem hd_X2_stepBack : yX2_stepBack.cls = RX2 ∧ yX2_stepBack.cls ≠ "java/lang/invoke/MethodHandle" ∧ yX2_stepBack.cls ≠ "java/lang/invoke/VarHandle" ∧ (parseMethodDescriptor yX2_stepBack.desc).map (fun d => d.parameters.length) = some 1 := by decide +kernel
theorem hs_X2_stepBack : yX2_stepBack.cls ≠ "java/lang/invoke/MethodHandle" ∧ yX2_stepBack.cls ≠ "java/lang/invoke/VarHandle" ∧ (parseMethodDescriptor yX2_stepBack.desc).map (fun d => d.parameters.length) = some 1 := hd_X2_stepBack.2
theorem gn_X2_stepBack : GoodIn wsL_law (Cond.code yX2_stepBack cX2_stepBack 2 (some .int) :: wsL_law) := w0_C wq_31_5
theorem hd_X3_append : yX3_append.cls = RX3 ∧ yX3_append.cls ≠ "java/lang/invoke/MethodHandle" ∧ yX3_append.cls ≠ "java/lang/invoke/VarHandle" ∧ (parseMethodDescriptor yX3_append.desc).map (fun d => d.parameters.length) = some 1 := by decide +kernel
theorem hs_X3_append : yX3_append.cls ≠ "java/lang/invoke/MethodHandle" ∧ yX3_append.cls ≠ "java/lang/invoke/VarHandle" ∧ (parseMethodDescriptor yX3_append.desc).map (fun d => d.parameters.length) = some 1 := hd_X3_append.2
theorem gn_X3_append : GoodIn wsL_law (Cond.code yX3_append cX3_append 5 (some .int) :: wsL_law) := w0_C wq_25_15
theorem hd_X3_clear : yX3_clear.cls = RX3 ∧ yX3_clear.cls ≠ "java/lang/invoke/MethodHandle" ∧ yX3_clear.cls ≠ "java/lang/invoke/VarHandle" ∧ (parseMethodDescriptor yX3_clear.desc).map (fun d => d.parameters.length) = some 0 := by decide +kernel
theorem hs_X3_clear : yX3_clear.cls ≠ "java/lang/invoke/MethodHandle" ∧ yX3_clear.cls ≠ "java/lang/invoke/VarHandle" ∧ (parseMethodDescriptor yX3_clear.desc).map (fun d => d.parameters.length) = some 0 := hd_X3_clear.2
theorem gn_X3_clear : GoodIn wsL_law (Cond.code yX3_clear cX3_clear 2 (some .int) :: wsL_law) := w0_C wq_26_11
theorem hd_X3_findFault : yX3_findFault.cls = RX3 ∧ yX3_findFault.cls ≠ "java/lang/invoke/MethodHandle" ∧ yX3_findFault.cls ≠ "java/lang/invoke/VarHandle" ∧ (parseMethodDescriptor yX3_findFault.desc).map (fun d => d.parameters.length) = some 0 := by decide +kernel
theorem hs_X3_findFault : yX3_findFault.cls ≠ "java/lang/invoke/MethodHandle" ∧ yX3_findFault.cls ≠ "java/lang/invoke/VarHandle" ∧ (parseMethodDescriptor yX3_findFault.desc).map (fun d => d.parameters.length) = some 0 := hd_X3_findFault.2
theorem gn_X3_findFault : GoodIn wsL_law (Cond.code yX3_findFault cX3_findFault 3 (some .int) :: wsL_law) := w0_C wq_26_23
theorem hd_X3_howMany : yX3_howMany.cls = RX3 ∧ yX3_howMany.cls ≠ "java/lang/invoke/MethodHandle" ∧ yX3_howMany.cls ≠ "java/lang/invoke/VarHandle" ∧ (parseMethodDescriptor yX3_howMany.desc).map (fun d => d.parameters.length) = some 1 := by decide +kernel
theorem hs_X3_howMany : yX3_howMany.cls ≠ "java/lang/invoke/MethodHandle" ∧ yX3_howMany.cls ≠ "java/lang/invoke/VarHandle" ∧ (parseMethodDescriptor yX3_howMany.desc).map (fun d => d.parameters.length) = some 1 := hd_X3_howMany.2
theorem gn_X3_howMany : GoodIn wsL_law (Cond.code yX3_howMany cX3_howMany 5 (some .int) :: wsL_law) := w0_C wq_25_20
theorem hd_X3_init : yX3_init.cls = RX3 ∧ yX3_init.cls ≠ "java/lang/invoke/MethodHandle" ∧ yX3_init.cls ≠ "java/lang/invoke/VarHandle" ∧ (parseMethodDescriptor yX3_init.desc).map (fun d => d.parameters.length) = some 0 := by decide +kernel
theorem hs_X3_init : yX3_init.cls ≠ "java/lang/invoke/MethodHandle" ∧ yX3_init.cls ≠ "java/lang/invoke/VarHandle" ∧ (parseMethodDescriptor yX3_init.desc).map (fun d => d.parameters.length) = some 0 := hd_X3_init.2
theorem gn_X3_init : GoodIn wsL_law (Cond.code yX3_init cX3_init 1 none :: wsL_law) := w0_C wq_3_18
theorem hd_X3_isDigit : yX3_isDigit.cls = RX3 ∧ yX3_isDigit.cls ≠ "java/lang/invoke/MethodHandle" ∧ yX3_isDigit.cls ≠ "java/lang/invoke/VarHandle" ∧ (parseMethodDescriptor yX3_isDigit.desc).map (fun d => d.parameters.length) = some 1 := by decide +kernel
theorem hs_X3_isDigit : yX3_isDigit.cls ≠ "java/lang/invoke/MethodHandle" ∧ yX3_isDigit.cls ≠ "java/lang/invoke/VarHandle" ∧ (parseMethodDescriptor yX3_isDigit.desc).map (fun d => d.parameters.length) = some 1 := hd_X3_isDigit.2
theorem gn_X3_isDigit : GoodIn wsL_law (Cond.code yX3_isDigit cX3_isDigit 1 (some .boolean) :: wsL_law) := w0_C wq_28_0
theorem hd_X3_nextOrder : yX3_nextOrder.cls = RX3 ∧ yX3_nextOrder.cls ≠ "java/lang/invoke/MethodHandle" ∧ yX3_nextOrder.cls ≠ "java/lang/invoke/VarHandle" ∧ (parseMethodDescriptor yX3_nextOrder.desc).map (fun d => d.parameters.length) = some 0 := by decide +kernel
theorem hs_X3_nextOrder : yX3_nextOrder.cls ≠ "java/lang/invoke/MethodHandle" ∧ yX3_nextOrder.cls ≠ "java/lang/invoke/VarHandle" ∧ (parseMethodDescriptor yX3_nextOrder.desc).map (fun d => d.parameters.length) = some 0 := hd_X3_nextOrder.2
theorem gn_X3_nextOrder : GoodIn wsL_law (Cond.code yX3_nextOrder cX3_nextOrder 1 (some .boolean) :: wsL_law) := w0_C wq_27_8
theorem hd_X3_pass : yX3_pass.cls = RX3 ∧ yX3_pass.cls ≠ "java/lang/invoke/MethodHandle" ∧ yX3_pass.cls ≠ "java/lang/invoke/VarHandle" ∧ (parseMethodDescriptor yX3_pass.desc).map (fun d => d.parameters.length) = some 1 := by decide +kernel
theorem hs_X3_pass : yX3_pass.cls ≠ "java/lang/invoke/MethodHandle" ∧ yX3_pass.cls ≠ "java/lang/invoke/VarHandle" ∧ (parseMethodDescriptor yX3_pass.desc).map (fun d => d.parameters.length) = some 1 := hd_X3_pass.2
theorem gn_X3_pass : GoodIn wsL_law (Cond.code yX3_pass cX3_pass 2 (some .boolean) :: wsL_law) := w0_C wq_27_13
theorem hd_X3_readDigit : yX3_readDigit.cls = RX3 ∧ yX3_readDigit.cls ≠ "java/lang/invoke/MethodHandle" ∧ yX3_readDigit.cls ≠ "java/lang/invoke/VarHandle" ∧ (parseMethodDescriptor yX3_readDigit.desc).map (fun d => d.parameters.length) = some 0 := by decide +kernel
theorem hs_X3_readDigit : yX3_readDigit.cls ≠ "java/lang/invoke/MethodHandle" ∧ yX3_readDigit.cls ≠ "java/lang/invoke/VarHandle" ∧ (parseMethodDescriptor yX3_readDigit.desc).map (fun d => d.parameters.length) = some 0 := hd_X3_readDigit.2
theorem gn_X3_readDigit : GoodIn wsL_law (Cond.code yX3_readDigit cX3_readDigit 2 (some .boolean) :: wsL_law) := w0_C wq_28_4
theorem hd_X3_readNumber : yX3_readNumber.cls = RX3 ∧ yX3_readNumber.cls ≠ "java/lang/invoke/MethodHandle" ∧ yX3_readNumber.cls ≠ "java/lang/invoke/VarHandle" ∧ (parseMethodDescriptor yX3_readNumber.desc).map (fun d => d.parameters.length) = some 1 := by decide +kernel
theorem hs_X3_readNumber : yX3_readNumber.cls ≠ "java/lang/invoke/MethodHandle" ∧ yX3_readNumber.cls ≠ "java/lang/invoke/VarHandle" ∧ (parseMethodDescriptor yX3_readNumber.desc).map (fun d => d.parameters.length) = some 1 := hd_X3_readNumber.2
theorem gn_X3_readNumber : GoodIn wsL_law (Cond.code yX3_readNumber cX3_readNumber 4 (some .boolean) :: wsL_law) := w0_C wq_27_21
theorem hd_X3_readValue : yX3_readValue.cls = RX3 ∧ yX3_readValue.cls ≠ "java/lang/invoke/MethodHandle" ∧ yX3_readValue.cls ≠ "java/lang/invoke/VarHandle" ∧ (parseMethodDescriptor yX3_readValue.desc).map (fun d => d.parameters.length) = some 0 := by decide +kernel
theorem hs_X3_readValue : yX3_readValue.cls ≠ "java/lang/invoke/MethodHandle" ∧ yX3_readValue.cls ≠ "java/lang/invoke/VarHandle" ∧ (parseMethodDescriptor yX3_readValue.desc).map (fun d => d.parameters.length) = some 0 := hd_X3_readValue.2
theorem gn_X3_readValue : GoodIn wsL_law (Cond.code yX3_readValue cX3_readValue 2 (some .boolean) :: wsL_law) := w0_C wq_28_8
theorem hd_X3_rewind : yX3_rewind.cls = RX3 ∧ yX3_rewind.cls ≠ "java/lang/invoke/MethodHandle" ∧ yX3_rewind.cls ≠ "java/lang/invoke/VarHandle" ∧ (parseMethodDescriptor yX3_rewind.desc).map (fun d => d.parameters.length) = some 0 := by decide +kernel
theorem hs_X3_rewind : yX3_rewind.cls ≠ "java/lang/invoke/MethodHandle" ∧ yX3_rewind.cls ≠ "java/lang/invoke/VarHandle" ∧ (parseMethodDescriptor yX3_rewind.desc).map (fun d => d.parameters.length) = some 0 := hd_X3_rewind.2
theorem gn_X3_rewind : GoodIn wsL_law (Cond.code yX3_rewind cX3_rewind 1 none :: wsL_law) := w0_C wq_27_4
theorem hd_X3_signAt : yX3_signAt.cls = RX3 ∧ yX3_signAt.cls ≠ "java/lang/invoke/MethodHandle" ∧ yX3_signAt.cls ≠ "java/lang/invoke/VarHandle" ∧ (parseMethodDescriptor yX3_signAt.desc).map (fun d => d.parameters.length) = some 1 := by decide +kernel
theorem hs_X3_signAt : yX3_signAt.cls ≠ "java/lang/invoke/MethodHandle" ∧ yX3_signAt.cls ≠ "java/lang/invoke/VarHandle" ∧ (parseMethodDescriptor yX3_signAt.desc).map (fun d => d.parameters.length) = some 1 := hd_X3_signAt.2
theorem gn_X3_signAt : GoodIn wsL_law (Cond.code yX3_signAt cX3_signAt 2 (some .int) :: wsL_law) := w0_C wq_27_17
theorem hd_X4_addGauge : yX4_addGauge.cls = RX4 ∧ yX4_addGauge.cls ≠ "java/lang/invoke/MethodHandle" ∧ yX4_addGauge.cls ≠ "java/lang/invoke/VarHandle" ∧ (parseMethodDescriptor yX4_addGauge.desc).map (fun d => d.parameters.length) = some 3 := by decide +kernel
theorem hs_X4_addGauge : yX4_addGauge.cls ≠ "java/lang/invoke/MethodHandle" ∧ yX4_addGauge.cls ≠ "java/lang/invoke/VarHandle" ∧ (parseMethodDescriptor yX4_addGauge.desc).map (fun d => d.parameters.length) = some 3 := hd_X4_addGauge.2
theorem gn_X4_addGauge : GoodIn wsL_law (Cond.code yX4_addGauge cX4_addGauge 4 (some .int) :: wsL_law) := w0_C wq_14_10
theorem hd_X4_addRing : yX4_addRing.cls = RX4 ∧ yX4_addRing.cls ≠ "java/lang/invoke/MethodHandle" ∧ yX4_addRing.cls ≠ "java/lang/invoke/VarHandle" ∧ (parseMethodDescriptor yX4_addRing.desc).map (fun d => d.parameters.length) = some 1 := by decide +kernel
theorem hs_X4_addRing : yX4_addRing.cls ≠ "java/lang/invoke/MethodHandle" ∧ yX4_addRing.cls ≠ "java/lang/invoke/VarHandle" ∧ (parseMethodDescriptor yX4_addRing.desc).map (fun d => d.parameters.length) = some 1 := hd_X4_addRing.2
theorem gn_X4_addRing : GoodIn wsL_law (Cond.code yX4_addRing cX4_addRing 2 (some .int) :: wsL_law) := w0_C wq_11_2
theorem hd_X4_adjust : yX4_adjust.cls = RX4 ∧ yX4_adjust.cls ≠ "java/lang/invoke/MethodHandle" ∧ yX4_adjust.cls ≠ "java/lang/invoke/VarHandle" ∧ (parseMethodDescriptor yX4_adjust.desc).map (fun d => d.parameters.length) = some 2 := by decide +kernel
theorem hs_X4_adjust : yX4_adjust.cls ≠ "java/lang/invoke/MethodHandle" ∧ yX4_adjust.cls ≠ "java/lang/invoke/VarHandle" ∧ (parseMethodDescriptor yX4_adjust.desc).map (fun d => d.parameters.length) = some 2 := hd_X4_adjust.2
theorem gn_X4_adjust : GoodIn wsL_law (Cond.code yX4_adjust cX4_adjust 5 (some .int) :: wsL_law) := w0_C wq_15_13
theorem hd_X4_certifyBy : yX4_certifyBy.cls = RX4 ∧ yX4_certifyBy.cls ≠ "java/lang/invoke/MethodHandle" ∧ yX4_certifyBy.cls ≠ "java/lang/invoke/VarHandle" ∧ (parseMethodDescriptor yX4_certifyBy.desc).map (fun d => d.parameters.length) = some 2 := by decide +kernel
theorem hs_X4_certifyBy : yX4_certifyBy.cls ≠ "java/lang/invoke/MethodHandle" ∧ yX4_certifyBy.cls ≠ "java/lang/invoke/VarHandle" ∧ (parseMethodDescriptor yX4_certifyBy.desc).map (fun d => d.parameters.length) = some 2 := hd_X4_certifyBy.2
theorem gn_X4_certifyBy : GoodIn wsL_law (Cond.code yX4_certifyBy cX4_certifyBy 4 (some .int) :: wsL_law) := w0_C wq_16_10
theorem hd_X4_change : yX4_change.cls = RX4 ∧ yX4_change.cls ≠ "java/lang/invoke/MethodHandle" ∧ yX4_change.cls ≠ "java/lang/invoke/VarHandle" ∧ (parseMethodDescriptor yX4_change.desc).map (fun d => d.parameters.length) = some 2 := by decide +kernel
theorem hs_X4_change : yX4_change.cls ≠ "java/lang/invoke/MethodHandle" ∧ yX4_change.cls ≠ "java/lang/invoke/VarHandle" ∧ (parseMethodDescriptor yX4_change.desc).map (fun d => d.parameters.length) = some 2 := hd_X4_change.2
theorem gn_X4_change : GoodIn wsL_law (Cond.code yX4_change cX4_change 4 (some .int) :: wsL_law) := w0_C wq_5_18
theorem hd_X4_columnPressure : yX4_columnPressure.cls = RX4 ∧ yX4_columnPressure.cls ≠ "java/lang/invoke/MethodHandle" ∧ yX4_columnPressure.cls ≠ "java/lang/invoke/VarHandle" ∧ (parseMethodDescriptor yX4_columnPressure.desc).map (fun d => d.parameters.length) = some 0 := by decide +kernel
theorem hs_X4_columnPressure : yX4_columnPressure.cls ≠ "java/lang/invoke/MethodHandle" ∧ yX4_columnPressure.cls ≠ "java/lang/invoke/VarHandle" ∧ (parseMethodDescriptor yX4_columnPressure.desc).map (fun d => d.parameters.length) = some 0 := hd_X4_columnPressure.2
theorem gn_X4_columnPressure : GoodIn wsL_law (Cond.code yX4_columnPressure cX4_columnPressure 1 (some .int) :: wsL_law) := w0_C wq_6_7
theorem hd_X4_copyFrom : yX4_copyFrom.cls = RX4 ∧ yX4_copyFrom.cls ≠ "java/lang/invoke/MethodHandle" ∧ yX4_copyFrom.cls ≠ "java/lang/invoke/VarHandle" ∧ (parseMethodDescriptor yX4_copyFrom.desc).map (fun d => d.parameters.length) = some 1 := by decide +kernel
theorem hs_X4_copyFrom : yX4_copyFrom.cls ≠ "java/lang/invoke/MethodHandle" ∧ yX4_copyFrom.cls ≠ "java/lang/invoke/VarHandle" ∧ (parseMethodDescriptor yX4_copyFrom.desc).map (fun d => d.parameters.length) = some 1 := hd_X4_copyFrom.2
theorem gn_X4_copyFrom : GoodIn wsL_law (Cond.code yX4_copyFrom cX4_copyFrom 3 none :: wsL_law) := w0_C wq_4_22
theorem hd_X4_countCertificates : yX4_countCertificates.cls = RX4 ∧ yX4_countCertificates.cls ≠ "java/lang/invoke/MethodHandle" ∧ yX4_countCertificates.cls ≠ "java/lang/invoke/VarHandle" ∧ (parseMethodDescriptor yX4_countCertificates.desc).map (fun d => d.parameters.length) = some 0 := by decide +kernel
theorem hs_X4_countCertificates : yX4_countCertificates.cls ≠ "java/lang/invoke/MethodHandle" ∧ yX4_countCertificates.cls ≠ "java/lang/invoke/VarHandle" ∧ (parseMethodDescriptor yX4_countCertificates.desc).map (fun d => d.parameters.length) = some 0 := hd_X4_countCertificates.2
theorem gn_X4_countCertificates : GoodIn wsL_law (Cond.code yX4_countCertificates cX4_countCertificates 3 (some .int) :: wsL_law) := w0_C wq_22_0
theorem hd_X4_dropRing : yX4_dropRing.cls = RX4 ∧ yX4_dropRing.cls ≠ "java/lang/invoke/MethodHandle" ∧ yX4_dropRing.cls ≠ "java/lang/invoke/VarHandle" ∧ (parseMethodDescriptor yX4_dropRing.desc).map (fun d => d.parameters.length) = some 0 := by decide +kernel
theorem hs_X4_dropRing : yX4_dropRing.cls ≠ "java/lang/invoke/MethodHandle" ∧ yX4_dropRing.cls ≠ "java/lang/invoke/VarHandle" ∧ (parseMethodDescriptor yX4_dropRing.desc).map (fun d => d.parameters.length) = some 0 := hd_X4_dropRing.2
theorem gn_X4_dropRing : GoodIn wsL_law (Cond.code yX4_dropRing cX4_dropRing 1 (some .int) :: wsL_law) := w0_C wq_11_22
theorem hd_X4_gaugeAt : yX4_gaugeAt.cls = RX4 ∧ yX4_gaugeAt.cls ≠ "java/lang/invoke/MethodHandle" ∧ yX4_gaugeAt.cls ≠ "java/lang/invoke/VarHandle" ∧ (parseMethodDescriptor yX4_gaugeAt.desc).map (fun d => d.parameters.length) = some 1 := by decide +kernel
theorem hs_X4_gaugeAt : yX4_gaugeAt.cls ≠ "java/lang/invoke/MethodHandle" ∧ yX4_gaugeAt.cls ≠ "java/lang/invoke/VarHandle" ∧ (parseMethodDescriptor yX4_gaugeAt.desc).map (fun d => d.parameters.length) = some 1 := hd_X4_gaugeAt.2
theorem gn_X4_gaugeAt : GoodIn wsL_law (Cond.code yX4_gaugeAt cX4_gaugeAt 2 (some (.object "GaugeColumns$Gauge")) :: wsL_law) := w0_C wq_15_18
theorem hd_X4_hasRing : yX4_hasRing.cls = RX4 ∧ yX4_hasRing.cls ≠ "java/lang/invoke/MethodHandle" ∧ yX4_hasRing.cls ≠ "java/lang/invoke/VarHandle" ∧ (parseMethodDescriptor yX4_hasRing.desc).map (fun d => d.parameters.length) = some 1 := by decide +kernel
theorem hs_X4_hasRing : yX4_hasRing.cls ≠ "java/lang/invoke/MethodHandle" ∧ yX4_hasRing.cls ≠ "java/lang/invoke/VarHandle" ∧ (parseMethodDescriptor yX4_hasRing.desc).map (fun d => d.parameters.length) = some 1 := hd_X4_hasRing.2
theorem gn_X4_hasRing : GoodIn wsL_law (Cond.code yX4_hasRing cX4_hasRing 2 (some .boolean) :: wsL_law) := w0_C wq_12_14
theorem hd_X4_init : yX4_init.cls = RX4 ∧ yX4_init.cls ≠ "java/lang/invoke/MethodHandle" ∧ yX4_init.cls ≠ "java/lang/invoke/VarHandle" ∧ (parseMethodDescriptor yX4_init.desc).map (fun d => d.parameters.length) = some 0 := by decide +kernel
theorem hs_X4_init : yX4_init.cls ≠ "java/lang/invoke/MethodHandle" ∧ yX4_init.cls ≠ "java/lang/invoke/VarHandle" ∧ (parseMethodDescriptor yX4_init.desc).map (fun d => d.parameters.length) = some 0 := hd_X4_init.2
theorem gn_X4_init : GoodIn wsL_law (Cond.code yX4_init cX4_init 2 none :: wsL_law) := w0_C wq_2_8
theorem hd_X4_isStacked : yX4_isStacked.cls = RX4 ∧ yX4_isStacked.cls ≠ "java/lang/invoke/MethodHandle" ∧ yX4_isStacked.cls ≠ "java/lang/invoke/VarHandle" ∧ (parseMethodDescriptor yX4_isStacked.desc).map (fun d => d.parameters.length) = some 1 := by decide +kernel
theorem hs_X4_isStacked : yX4_isStacked.cls ≠ "java/lang/invoke/MethodHandle" ∧ yX4_isStacked.cls ≠ "java/lang/invoke/VarHandle" ∧ (parseMethodDescriptor yX4_isStacked.desc).map (fun d => d.parameters.length) = some 1 := hd_X4_isStacked.2
theorem gn_X4_isStacked : GoodIn wsL_law (Cond.code yX4_isStacked cX4_isStacked 2 (some .boolean) :: wsL_law) := w0_C wq_12_18
theorem hd_X4_massOf : yX4_massOf.cls = RX4 ∧ yX4_massOf.cls ≠ "java/lang/invoke/MethodHandle" ∧ yX4_massOf.cls ≠ "java/lang/invoke/VarHandle" ∧ (parseMethodDescriptor yX4_massOf.desc).map (fun d => d.parameters.length) = some 1 := by decide +kernel
theorem hs_X4_massOf : yX4_massOf.cls ≠ "java/lang/invoke/MethodHandle" ∧ yX4_massOf.cls ≠ "java/lang/invoke/VarHandle" ∧ (parseMethodDescriptor yX4_massOf.desc).map (fun d => d.parameters.length) = some 1 := hd_X4_massOf.2
theorem gn_X4_massOf : GoodIn wsL_law (Cond.code yX4_massOf cX4_massOf 4 (some .int) :: wsL_law) := w0_C wq_6_11
theorem hd_X4_massToNext : yX4_massToNext.cls = RX4 ∧ yX4_massToNext.cls ≠ "java/lang/invoke/MethodHandle" ∧ yX4_massToNext.cls ≠ "java/lang/invoke/VarHandle" ∧ (parseMethodDescriptor yX4_massToNext.desc).map (fun d => d.parameters.length) = some 1 := by decide +kernel
theorem hs_X4_massToNext : yX4_massToNext.cls ≠ "java/lang/invoke/MethodHandle" ∧ yX4_massToNext.cls ≠ "java/lang/invoke/VarHandle" ∧ (parseMethodDescriptor yX4_massToNext.desc).map (fun d => d.parameters.length) = some 1 := hd_X4_massToNext.2
theorem gn_X4_massToNext : GoodIn wsL_law (Cond.code yX4_massToNext cX4_massToNext 4 (some .int) :: wsL_law) := w0_C wq_23_15
theorem hd_X4_moveHands : yX4_moveHands.cls = RX4 ∧ yX4_moveHands.cls ≠ "java/lang/invoke/MethodHandle" ∧ yX4_moveHands.cls ≠ "java/lang/invoke/VarHandle" ∧ (parseMethodDescriptor yX4_moveHands.desc).map (fun d => d.parameters.length) = some 0 := by decide +kernel
theorem hs_X4_moveHands : yX4_moveHands.cls ≠ "java/lang/invoke/MethodHandle" ∧ yX4_moveHands.cls ≠ "java/lang/invoke/VarHandle" ∧ (parseMethodDescriptor yX4_moveHands.desc).map (fun d => d.parameters.length) = some 0 := hd_X4_moveHands.2
theorem gn_X4_moveHands : GoodIn wsL_law (Cond.code yX4_moveHands cX4_moveHands 3 (some .int) :: wsL_law) := w0_C wq_6_3
theorem hd_X4_nearestTo : yX4_nearestTo.cls = RX4 ∧ yX4_nearestTo.cls ≠ "java/lang/invoke/MethodHandle" ∧ yX4_nearestTo.cls ≠ "java/lang/invoke/VarHandle" ∧ (parseMethodDescriptor yX4_nearestTo.desc).map (fun d => d.parameters.length) = some 1 := by decide +kernel
theorem hs_X4_nearestTo : yX4_nearestTo.cls ≠ "java/lang/invoke/MethodHandle" ∧ yX4_nearestTo.cls ≠ "java/lang/invoke/VarHandle" ∧ (parseMethodDescriptor yX4_nearestTo.desc).map (fun d => d.parameters.length) = some 1 := hd_X4_nearestTo.2
theorem gn_X4_nearestTo : GoodIn wsL_law (Cond.code yX4_nearestTo cX4_nearestTo 7 (some .int) :: wsL_law) := w0_C wq_23_2
theorem hd_X4_placeOf : yX4_placeOf.cls = RX4 ∧ yX4_placeOf.cls ≠ "java/lang/invoke/MethodHandle" ∧ yX4_placeOf.cls ≠ "java/lang/invoke/VarHandle" ∧ (parseMethodDescriptor yX4_placeOf.desc).map (fun d => d.parameters.length) = some 1 := by decide +kernel
theorem hs_X4_placeOf : yX4_placeOf.cls ≠ "java/lang/invoke/MethodHandle" ∧ yX4_placeOf.cls ≠ "java/lang/invoke/VarHandle" ∧ (parseMethodDescriptor yX4_placeOf.desc).map (fun d => d.parameters.length) = some 1 := hd_X4_placeOf.2
theorem gn_X4_placeOf : GoodIn wsL_law (Cond.code yX4_placeOf cX4_placeOf 4 (some .int) :: wsL_law) := w0_C wq_17_2
theorem hd_X4_pressureOf : yX4_pressureOf.cls = RX4 ∧ yX4_pressureOf.cls ≠ "java/lang/invoke/MethodHandle" ∧ yX4_pressureOf.cls ≠ "java/lang/invoke/VarHandle" ∧ (parseMethodDescriptor yX4_pressureOf.desc).map (fun d => d.parameters.length) = some 2 := by decide +kernel
theorem hs_X4_pressureOf : yX4_pressureOf.cls ≠ "java/lang/invoke/MethodHandle" ∧ yX4_pressureOf.cls ≠ "java/lang/invoke/VarHandle" ∧ (parseMethodDescriptor yX4_pressureOf.desc).map (fun d => d.parameters.length) = some 2 := hd_X4_pressureOf.2
theorem gn_X4_pressureOf : GoodIn wsL_law (Cond.code yX4_pressureOf cX4_pressureOf 3 (some .int) :: wsL_law) := w0_C wq_6_15
theorem hd_X4_putOn : yX4_putOn.cls = RX4 ∧ yX4_putOn.cls ≠ "java/lang/invoke/MethodHandle" ∧ yX4_putOn.cls ≠ "java/lang/invoke/VarHandle" ∧ (parseMethodDescriptor yX4_putOn.desc).map (fun d => d.parameters.length) = some 1 := by decide +kernel
theorem hs_X4_putOn : yX4_putOn.cls ≠ "java/lang/invoke/MethodHandle" ∧ yX4_putOn.cls ≠ "java/lang/invoke/VarHandle" ∧ (parseMethodDescriptor yX4_putOn.desc).map (fun d => d.parameters.length) = some 1 := hd_X4_putOn.2
theorem gn_X4_putOn : GoodIn wsL_law (Cond.code yX4_putOn cX4_putOn 2 (some .int) :: wsL_law) := w0_C wq_12_10
theorem hd_X4_takeOff : yX4_takeOff.cls = RX4 ∧ yX4_takeOff.cls ≠ "java/lang/invoke/MethodHandle" ∧ yX4_takeOff.cls ≠ "java/lang/invoke/VarHandle" ∧ (parseMethodDescriptor yX4_takeOff.desc).map (fun d => d.parameters.length) = some 1 := by decide +kernel
theorem hs_X4_takeOff : yX4_takeOff.cls ≠ "java/lang/invoke/MethodHandle" ∧ yX4_takeOff.cls ≠ "java/lang/invoke/VarHandle" ∧ (parseMethodDescriptor yX4_takeOff.desc).map (fun d => d.parameters.length) = some 1 := hd_X4_takeOff.2
theorem gn_X4_takeOff : GoodIn wsL_law (Cond.code yX4_takeOff cX4_takeOff 2 (some .int) :: wsL_law) := w0_C wq_13_22
theorem hd_X4_voidCertificates : yX4_voidCertificates.cls = RX4 ∧ yX4_voidCertificates.cls ≠ "java/lang/invoke/MethodHandle" ∧ yX4_voidCertificates.cls ≠ "java/lang/invoke/VarHandle" ∧ (parseMethodDescriptor yX4_voidCertificates.desc).map (fun d => d.parameters.length) = some 0 := by decide +kernel
theorem hs_X4_voidCertificates : yX4_voidCertificates.cls ≠ "java/lang/invoke/MethodHandle" ∧ yX4_voidCertificates.cls ≠ "java/lang/invoke/VarHandle" ∧ (parseMethodDescriptor yX4_voidCertificates.desc).map (fun d => d.parameters.length) = some 0 := hd_X4_voidCertificates.2
theorem gn_X4_voidCertificates : GoodIn wsL_law (Cond.code yX4_voidCertificates cX4_voidCertificates 2 none :: wsL_law) := w0_C wq_5_22
theorem hd_X5_init : yX5_init.cls = RX5 ∧ yX5_init.cls ≠ "java/lang/invoke/MethodHandle" ∧ yX5_init.cls ≠ "java/lang/invoke/VarHandle" ∧ (parseMethodDescriptor yX5_init.desc).map (fun d => d.parameters.length) = some 0 := by decide +kernel
theorem hs_X5_init : yX5_init.cls ≠ "java/lang/invoke/MethodHandle" ∧ yX5_init.cls ≠ "java/lang/invoke/VarHandle" ∧ (parseMethodDescriptor yX5_init.desc).map (fun d => d.parameters.length) = some 0 := hd_X5_init.2
theorem gn_X5_init : GoodIn wsL_law (Cond.code yX5_init cX5_init 1 none :: wsL_law) := w0_C wq_3_10
theorem hd_X5_prepare : yX5_prepare.cls = RX5 ∧ yX5_prepare.cls ≠ "java/lang/invoke/MethodHandle" ∧ yX5_prepare.cls ≠ "java/lang/invoke/VarHandle" ∧ (parseMethodDescriptor yX5_prepare.desc).map (fun d => d.parameters.length) = some 1 := by decide +kernel
theorem hs_X5_prepare : yX5_prepare.cls ≠ "java/lang/invoke/MethodHandle" ∧ yX5_prepare.cls ≠ "java/lang/invoke/VarHandle" ∧ (parseMethodDescriptor yX5_prepare.desc).map (fun d => d.parameters.length) = some 1 := hd_X5_prepare.2
theorem gn_X5_prepare : GoodIn wsL_law (Cond.code yX5_prepare cX5_prepare 5 none :: wsL_law) := w0_C wq_16_18
theorem hd_X5_run : yX5_run.cls = RX5 ∧ yX5_run.cls ≠ "java/lang/invoke/MethodHandle" ∧ yX5_run.cls ≠ "java/lang/invoke/VarHandle" ∧ (parseMethodDescriptor yX5_run.desc).map (fun d => d.parameters.length) = some 2 := by decide +kernel
theorem hs_X5_run : yX5_run.cls ≠ "java/lang/invoke/MethodHandle" ∧ yX5_run.cls ≠ "java/lang/invoke/VarHandle" ∧ (parseMethodDescriptor yX5_run.desc).map (fun d => d.parameters.length) = some 2 := hd_X5_run.2
theorem gn_X5_run : GoodIn wsL_law (Cond.code yX5_run cX5_run 6 none :: wsL_law) := w0_C wq_17_7
theorem hd_X6_carryOutOrder : yX6_carryOutOrder.cls = RX6 ∧ yX6_carryOutOrder.cls ≠ "java/lang/invoke/MethodHandle" ∧ yX6_carryOutOrder.cls ≠ "java/lang/invoke/VarHandle" ∧ (parseMethodDescriptor yX6_carryOutOrder.desc).map (fun d => d.parameters.length) = some 0 := by decide +kernel
theorem hs_X6_carryOutOrder : yX6_carryOutOrder.cls ≠ "java/lang/invoke/MethodHandle" ∧ yX6_carryOutOrder.cls ≠ "java/lang/invoke/VarHandle" ∧ (parseMethodDescriptor yX6_carryOutOrder.desc).map (fun d => d.parameters.length) = some 0 := hd_X6_carryOutOrder.2
theorem gn_X6_carryOutOrder : GoodIn wsL_law (Cond.code yX6_carryOutOrder cX6_carryOutOrder 2 (some .int) :: wsL_law) := w0_C wq_30_7
theorem hd_X6_dividedDown : yX6_dividedDown.cls = RX6 ∧ yX6_dividedDown.cls ≠ "java/lang/invoke/MethodHandle" ∧ yX6_dividedDown.cls ≠ "java/lang/invoke/VarHandle" ∧ (parseMethodDescriptor yX6_dividedDown.desc).map (fun d => d.parameters.length) = some 2 := by decide +kernel
theorem hs_X6_dividedDown : yX6_dividedDown.cls ≠ "java/lang/invoke/MethodHandle" ∧ yX6_dividedDown.cls ≠ "java/lang/invoke/VarHandle" ∧ (parseMethodDescriptor yX6_dividedDown.desc).map (fun d => d.parameters.length) = some 2 := hd_X6_dividedDown.2
theorem gn_X6_dividedDown : GoodIn wsL_law (Cond.code yX6_dividedDown cX6_dividedDown 2 (some .int) :: wsL_law) := w0_C wq_6_23
theorem hd_X6_dividedRounded : yX6_dividedRounded.cls = RX6 ∧ yX6_dividedRounded.cls ≠ "java/lang/invoke/MethodHandle" ∧ yX6_dividedRounded.cls ≠ "java/lang/invoke/VarHandle" ∧ (parseMethodDescriptor yX6_dividedRounded.desc).map (fun d => d.parameters.length) = some 2 := by decide +kernel
theorem hs_X6_dividedRounded : yX6_dividedRounded.cls ≠ "java/lang/invoke/MethodHandle" ∧ yX6_dividedRounded.cls ≠ "java/lang/invoke/VarHandle" ∧ (parseMethodDescriptor yX6_dividedRounded.desc).map (fun d => d.parameters.length) = some 2 := hd_X6_dividedRounded.2
theorem gn_X6_dividedRounded : GoodIn wsL_law (Cond.code yX6_dividedRounded cX6_dividedRounded 2 (some .int) :: wsL_law) := w0_C wq_6_21
theorem hd_X6_weightOf : yX6_weightOf.cls = RX6 ∧ yX6_weightOf.cls ≠ "java/lang/invoke/MethodHandle" ∧ yX6_weightOf.cls ≠ "java/lang/invoke/VarHandle" ∧ (parseMethodDescriptor yX6_weightOf.desc).map (fun d => d.parameters.length) = some 2 := by decide +kernel
theorem hs_X6_weightOf : yX6_weightOf.cls ≠ "java/lang/invoke/MethodHandle" ∧ yX6_weightOf.cls ≠ "java/lang/invoke/VarHandle" ∧ (parseMethodDescriptor yX6_weightOf.desc).map (fun d => d.parameters.length) = some 2 := hd_X6_weightOf.2
theorem gn_X6_weightOf : GoodIn wsL_law (Cond.code yX6_weightOf cX6_weightOf 2 (some .int) :: wsL_law) := w0_C wq_6_17
theorem hd_X7_bits : yX7_bits.cls = RX7 ∧ yX7_bits.cls ≠ "java/lang/invoke/MethodHandle" ∧ yX7_bits.cls ≠ "java/lang/invoke/VarHandle" ∧ (parseMethodDescriptor yX7_bits.desc).map (fun d => d.parameters.length) = some 1 := by decide +kernel
theorem hs_X7_bits : yX7_bits.cls ≠ "java/lang/invoke/MethodHandle" ∧ yX7_bits.cls ≠ "java/lang/invoke/VarHandle" ∧ (parseMethodDescriptor yX7_bits.desc).map (fun d => d.parameters.length) = some 1 := hd_X7_bits.2
theorem gn_X7_bits : GoodIn wsL_law (Cond.code yX7_bits cX7_bits 3 (some .int) :: wsL_law) := w0_C wq_23_22
theorem hd_X7_certificates : yX7_certificates.cls = RX7 ∧ yX7_certificates.cls ≠ "java/lang/invoke/MethodHandle" ∧ yX7_certificates.cls ≠ "java/lang/invoke/VarHandle" ∧ (parseMethodDescriptor yX7_certificates.desc).map (fun d => d.parameters.length) = some 0 := by decide +kernel
theorem hs_X7_certificates : yX7_certificates.cls ≠ "java/lang/invoke/MethodHandle" ∧ yX7_certificates.cls ≠ "java/lang/invoke/VarHandle" ∧ (parseMethodDescriptor yX7_certificates.desc).map (fun d => d.parameters.length) = some 0 := hd_X7_certificates.2
theorem gn_X7_certificates : GoodIn wsL_law (Cond.code yX7_certificates cX7_certificates 3 (some .int) :: wsL_law) := w0_C wq_22_9
theorem hd_X7_certifies : yX7_certifies.cls = RX7 ∧ yX7_certifies.cls ≠ "java/lang/invoke/MethodHandle" ∧ yX7_certifies.cls ≠ "java/lang/invoke/VarHandle" ∧ (parseMethodDescriptor yX7_certifies.desc).map (fun d => d.parameters.length) = some 1 := by decide +kernel
theorem hs_X7_certifies : yX7_certifies.cls ≠ "java/lang/invoke/MethodHandle" ∧ yX7_certifies.cls ≠ "java/lang/invoke/VarHandle" ∧ (parseMethodDescriptor yX7_certifies.desc).map (fun d => d.parameters.length) = some 1 := hd_X7_certifies.2
theorem gn_X7_certifies : GoodIn wsL_law (Cond.code yX7_certifies cX7_certifies 3 (some .int) :: wsL_law) := w0_C wq_19_0
theorem hd_X7_character : yX7_character.cls = RX7 ∧ yX7_character.cls ≠ "java/lang/invoke/MethodHandle" ∧ yX7_character.cls ≠ "java/lang/invoke/VarHandle" ∧ (parseMethodDescriptor yX7_character.desc).map (fun d => d.parameters.length) = some 1 := by decide +kernel
theorem hs_X7_character : yX7_character.cls ≠ "java/lang/invoke/MethodHandle" ∧ yX7_character.cls ≠ "java/lang/invoke/VarHandle" ∧ (parseMethodDescriptor yX7_character.desc).map (fun d => d.parameters.length) = some 1 := hd_X7_character.2
theorem gn_X7_character : GoodIn wsL_law (Cond.code yX7_character cX7_character 2 (some .int) :: wsL_law) := w0_C wq_29_3
theorem hd_X7_comes : yX7_comes.cls = RX7 ∧ yX7_comes.cls ≠ "java/lang/invoke/MethodHandle" ∧ yX7_comes.cls ≠ "java/lang/invoke/VarHandle" ∧ (parseMethodDescriptor yX7_comes.desc).map (fun d => d.parameters.length) = some 1 := by decide +kernel
theorem hs_X7_comes : yX7_comes.cls ≠ "java/lang/invoke/MethodHandle" ∧ yX7_comes.cls ≠ "java/lang/invoke/VarHandle" ∧ (parseMethodDescriptor yX7_comes.desc).map (fun d => d.parameters.length) = some 1 := hd_X7_comes.2
theorem gn_X7_comes : GoodIn wsL_law (Cond.code yX7_comes cX7_comes 2 (some .int) :: wsL_law) := w0_C wq_11_14
theorem hd_X7_comesGauge : yX7_comesGauge.cls = RX7 ∧ yX7_comesGauge.cls ≠ "java/lang/invoke/MethodHandle" ∧ yX7_comesGauge.cls ≠ "java/lang/invoke/VarHandle" ∧ (parseMethodDescriptor yX7_comesGauge.desc).map (fun d => d.parameters.length) = some 3 := by decide +kernel
theorem hs_X7_comesGauge : yX7_comesGauge.cls ≠ "java/lang/invoke/MethodHandle" ∧ yX7_comesGauge.cls ≠ "java/lang/invoke/VarHandle" ∧ (parseMethodDescriptor yX7_comesGauge.desc).map (fun d => d.parameters.length) = some 3 := hd_X7_comesGauge.2
theorem gn_X7_comesGauge : GoodIn wsL_law (Cond.code yX7_comesGauge cX7_comesGauge 6 (some .int) :: wsL_law) := w0_C wq_15_5
theorem hd_X7_does : yX7_does.cls = RX7 ∧ yX7_does.cls ≠ "java/lang/invoke/MethodHandle" ∧ yX7_does.cls ≠ "java/lang/invoke/VarHandle" ∧ (parseMethodDescriptor yX7_does.desc).map (fun d => d.parameters.length) = some 0 := by decide +kernel
theorem hs_X7_does : yX7_does.cls ≠ "java/lang/invoke/MethodHandle" ∧ yX7_does.cls ≠ "java/lang/invoke/VarHandle" ∧ (parseMethodDescriptor yX7_does.desc).map (fun d => d.parameters.length) = some 0 := hd_X7_does.2
theorem gn_X7_does : GoodIn wsL_law (Cond.code yX7_does cX7_does 1 none :: wsL_law) := w0_C wq_30_21
theorem hd_X7_findFault : yX7_findFault.cls = RX7 ∧ yX7_findFault.cls ≠ "java/lang/invoke/MethodHandle" ∧ yX7_findFault.cls ≠ "java/lang/invoke/VarHandle" ∧ (parseMethodDescriptor yX7_findFault.desc).map (fun d => d.parameters.length) = some 0 := by decide +kernel
theorem hs_X7_findFault : yX7_findFault.cls ≠ "java/lang/invoke/MethodHandle" ∧ yX7_findFault.cls ≠ "java/lang/invoke/VarHandle" ∧ (parseMethodDescriptor yX7_findFault.desc).map (fun d => d.parameters.length) = some 0 := hd_X7_findFault.2
theorem gn_X7_findFault : GoodIn wsL_law (Cond.code yX7_findFault cX7_findFault 1 (some .int) :: wsL_law) := w0_C wq_28_16
theorem hd_X7_findOrder : yX7_findOrder.cls = RX7 ∧ yX7_findOrder.cls ≠ "java/lang/invoke/MethodHandle" ∧ yX7_findOrder.cls ≠ "java/lang/invoke/VarHandle" ∧ (parseMethodDescriptor yX7_findOrder.desc).map (fun d => d.parameters.length) = some 0 := by decide +kernel
theorem hs_X7_findOrder : yX7_findOrder.cls ≠ "java/lang/invoke/MethodHandle" ∧ yX7_findOrder.cls ≠ "java/lang/invoke/VarHandle" ∧ (parseMethodDescriptor yX7_findOrder.desc).map (fun d => d.parameters.length) = some 0 := hd_X7_findOrder.2
theorem gn_X7_findOrder : GoodIn wsL_law (Cond.code yX7_findOrder cX7_findOrder 3 none :: wsL_law) := w0_C wq_19_10
theorem hd_X7_goesTo : yX7_goesTo.cls = RX7 ∧ yX7_goesTo.cls ≠ "java/lang/invoke/MethodHandle" ∧ yX7_goesTo.cls ≠ "java/lang/invoke/VarHandle" ∧ (parseMethodDescriptor yX7_goesTo.desc).map (fun d => d.parameters.length) = some 4 := by decide +kernel
theorem hs_X7_goesTo : yX7_goesTo.cls ≠ "java/lang/invoke/MethodHandle" ∧ yX7_goesTo.cls ≠ "java/lang/invoke/VarHandle" ∧ (parseMethodDescriptor yX7_goesTo.desc).map (fun d => d.parameters.length) = some 4 := hd_X7_goesTo.2
theorem gn_X7_goesTo : GoodIn wsL_law (Cond.code yX7_goesTo cX7_goesTo 5 (some .int) :: wsL_law) := w0_C wq_10_12
theorem hd_X7_handGoes : yX7_handGoes.cls = RX7 ∧ yX7_handGoes.cls ≠ "java/lang/invoke/MethodHandle" ∧ yX7_handGoes.cls ≠ "java/lang/invoke/VarHandle" ∧ (parseMethodDescriptor yX7_handGoes.desc).map (fun d => d.parameters.length) = some 1 := by decide +kernel
theorem hs_X7_handGoes : yX7_handGoes.cls ≠ "java/lang/invoke/MethodHandle" ∧ yX7_handGoes.cls ≠ "java/lang/invoke/VarHandle" ∧ (parseMethodDescriptor yX7_handGoes.desc).map (fun d => d.parameters.length) = some 1 := hd_X7_handGoes.2
theorem gn_X7_handGoes : GoodIn wsL_law (Cond.code yX7_handGoes cX7_handGoes 2 none :: wsL_law) := w0_C wq_9_9
theorem hd_X7_handsGo : yX7_handsGo.cls = RX7 ∧ yX7_handsGo.cls ≠ "java/lang/invoke/MethodHandle" ∧ yX7_handsGo.cls ≠ "java/lang/invoke/VarHandle" ∧ (parseMethodDescriptor yX7_handsGo.desc).map (fun d => d.parameters.length) = some 0 := by decide +kernel
theorem hs_X7_handsGo : yX7_handsGo.cls ≠ "java/lang/invoke/MethodHandle" ∧ yX7_handsGo.cls ≠ "java/lang/invoke/VarHandle" ∧ (parseMethodDescriptor yX7_handsGo.desc).map (fun d => d.parameters.length) = some 0 := hd_X7_handsGo.2
theorem gn_X7_handsGo : GoodIn wsL_law (Cond.code yX7_handsGo cX7_handsGo 2 none :: wsL_law) := w0_C wq_9_5
theorem hd_X7_isError : yX7_isError.cls = RX7 ∧ yX7_isError.cls ≠ "java/lang/invoke/MethodHandle" ∧ yX7_isError.cls ≠ "java/lang/invoke/VarHandle" ∧ (parseMethodDescriptor yX7_isError.desc).map (fun d => d.parameters.length) = some 1 := by decide +kernel
theorem hs_X7_isError : yX7_isError.cls ≠ "java/lang/invoke/MethodHandle" ∧ yX7_isError.cls ≠ "java/lang/invoke/VarHandle" ∧ (parseMethodDescriptor yX7_isError.desc).map (fun d => d.parameters.length) = some 1 := hd_X7_isError.2
theorem gn_X7_isError : GoodIn wsL_law (Cond.code yX7_isError cX7_isError 1 (some .boolean) :: wsL_law) := w0_C wq_15_1
theorem hd_X7_isGauge : yX7_isGauge.cls = RX7 ∧ yX7_isGauge.cls ≠ "java/lang/invoke/MethodHandle" ∧ yX7_isGauge.cls ≠ "java/lang/invoke/VarHandle" ∧ (parseMethodDescriptor yX7_isGauge.desc).map (fun d => d.parameters.length) = some 1 := by decide +kernel
theorem hs_X7_isGauge : yX7_isGauge.cls ≠ "java/lang/invoke/MethodHandle" ∧ yX7_isGauge.cls ≠ "java/lang/invoke/VarHandle" ∧ (parseMethodDescriptor yX7_isGauge.desc).map (fun d => d.parameters.length) = some 1 := hd_X7_isGauge.2
theorem gn_X7_isGauge : GoodIn wsL_law (Cond.code yX7_isGauge cX7_isGauge 2 (some .boolean) :: wsL_law) := w0_C wq_16_2
theorem hd_X7_isMoved : yX7_isMoved.cls = RX7 ∧ yX7_isMoved.cls ≠ "java/lang/invoke/MethodHandle" ∧ yX7_isMoved.cls ≠ "java/lang/invoke/VarHandle" ∧ (parseMethodDescriptor yX7_isMoved.desc).map (fun d => d.parameters.length) = some 1 := by decide +kernel
theorem hs_X7_isMoved : yX7_isMoved.cls ≠ "java/lang/invoke/MethodHandle" ∧ yX7_isMoved.cls ≠ "java/lang/invoke/VarHandle" ∧ (parseMethodDescriptor yX7_isMoved.desc).map (fun d => d.parameters.length) = some 1 := hd_X7_isMoved.2
theorem gn_X7_isMoved : GoodIn wsL_law (Cond.code yX7_isMoved cX7_isMoved 2 (some .int) :: wsL_law) := w0_C wq_13_14
theorem hd_X7_isNext : yX7_isNext.cls = RX7 ∧ yX7_isNext.cls ≠ "java/lang/invoke/MethodHandle" ∧ yX7_isNext.cls ≠ "java/lang/invoke/VarHandle" ∧ (parseMethodDescriptor yX7_isNext.desc).map (fun d => d.parameters.length) = some 1 := by decide +kernel
theorem hs_X7_isNext : yX7_isNext.cls ≠ "java/lang/invoke/MethodHandle" ∧ yX7_isNext.cls ≠ "java/lang/invoke/VarHandle" ∧ (parseMethodDescriptor yX7_isNext.desc).map (fun d => d.parameters.length) = some 1 := hd_X7_isNext.2
theorem gn_X7_isNext : GoodIn wsL_law (Cond.code yX7_isNext cX7_isNext 3 (some .boolean) :: wsL_law) := w0_C wq_29_21
theorem hd_X7_isRing : yX7_isRing.cls = RX7 ∧ yX7_isRing.cls ≠ "java/lang/invoke/MethodHandle" ∧ yX7_isRing.cls ≠ "java/lang/invoke/VarHandle" ∧ (parseMethodDescriptor yX7_isRing.desc).map (fun d => d.parameters.length) = some 1 := by decide +kernel
theorem hs_X7_isRing : yX7_isRing.cls ≠ "java/lang/invoke/MethodHandle" ∧ yX7_isRing.cls ≠ "java/lang/invoke/VarHandle" ∧ (parseMethodDescriptor yX7_isRing.desc).map (fun d => d.parameters.length) = some 1 := hd_X7_isRing.2
theorem gn_X7_isRing : GoodIn wsL_law (Cond.code yX7_isRing cX7_isRing 2 (some .boolean) :: wsL_law) := w0_C wq_13_6
theorem hd_X7_isStacked : yX7_isStacked.cls = RX7 ∧ yX7_isStacked.cls ≠ "java/lang/invoke/MethodHandle" ∧ yX7_isStacked.cls ≠ "java/lang/invoke/VarHandle" ∧ (parseMethodDescriptor yX7_isStacked.desc).map (fun d => d.parameters.length) = some 1 := by decide +kernel
theorem hs_X7_isStacked : yX7_isStacked.cls ≠ "java/lang/invoke/MethodHandle" ∧ yX7_isStacked.cls ≠ "java/lang/invoke/VarHandle" ∧ (parseMethodDescriptor yX7_isStacked.desc).map (fun d => d.parameters.length) = some 1 := hd_X7_isStacked.2
theorem gn_X7_isStacked : GoodIn wsL_law (Cond.code yX7_isStacked cX7_isStacked 2 (some .boolean) :: wsL_law) := w0_C wq_13_10
theorem hd_X7_isValue : yX7_isValue.cls = RX7 ∧ yX7_isValue.cls ≠ "java/lang/invoke/MethodHandle" ∧ yX7_isValue.cls ≠ "java/lang/invoke/VarHandle" ∧ (parseMethodDescriptor yX7_isValue.desc).map (fun d => d.parameters.length) = some 2 := by decide +kernel
theorem hs_X7_isValue : yX7_isValue.cls ≠ "java/lang/invoke/MethodHandle" ∧ yX7_isValue.cls ≠ "java/lang/invoke/VarHandle" ∧ (parseMethodDescriptor yX7_isValue.desc).map (fun d => d.parameters.length) = some 2 := hd_X7_isValue.2
theorem gn_X7_isValue : GoodIn wsL_law (Cond.code yX7_isValue cX7_isValue 2 (some .boolean) :: wsL_law) := w0_C wq_7_22
theorem hd_X7_massOf : yX7_massOf.cls = RX7 ∧ yX7_massOf.cls ≠ "java/lang/invoke/MethodHandle" ∧ yX7_massOf.cls ≠ "java/lang/invoke/VarHandle" ∧ (parseMethodDescriptor yX7_massOf.desc).map (fun d => d.parameters.length) = some 1 := by decide +kernel
theorem hs_X7_massOf : yX7_massOf.cls ≠ "java/lang/invoke/MethodHandle" ∧ yX7_massOf.cls ≠ "java/lang/invoke/VarHandle" ∧ (parseMethodDescriptor yX7_massOf.desc).map (fun d => d.parameters.length) = some 1 := hd_X7_massOf.2
theorem gn_X7_massOf : GoodIn wsL_law (Cond.code yX7_massOf cX7_massOf 4 (some .int) :: wsL_law) := w0_C wq_9_21
theorem hd_X7_moves : yX7_moves.cls = RX7 ∧ yX7_moves.cls ≠ "java/lang/invoke/MethodHandle" ∧ yX7_moves.cls ≠ "java/lang/invoke/VarHandle" ∧ (parseMethodDescriptor yX7_moves.desc).map (fun d => d.parameters.length) = some 4 := by decide +kernel
theorem hs_X7_moves : yX7_moves.cls ≠ "java/lang/invoke/MethodHandle" ∧ yX7_moves.cls ≠ "java/lang/invoke/VarHandle" ∧ (parseMethodDescriptor yX7_moves.desc).map (fun d => d.parameters.length) = some 4 := hd_X7_moves.2
theorem gn_X7_moves : GoodIn wsL_law (Cond.code yX7_moves cX7_moves 5 none :: wsL_law) := w0_C wq_8_9
theorem hd_X7_part : yX7_part.cls = RX7 ∧ yX7_part.cls ≠ "java/lang/invoke/MethodHandle" ∧ yX7_part.cls ≠ "java/lang/invoke/VarHandle" ∧ (parseMethodDescriptor yX7_part.desc).map (fun d => d.parameters.length) = some 2 := by decide +kernel
theorem hs_X7_part : yX7_part.cls ≠ "java/lang/invoke/MethodHandle" ∧ yX7_part.cls ≠ "java/lang/invoke/VarHandle" ∧ (parseMethodDescriptor yX7_part.desc).map (fun d => d.parameters.length) = some 2 := hd_X7_part.2
theorem gn_X7_part : GoodIn wsL_law (Cond.code yX7_part cX7_part 3 (some .int) :: wsL_law) := w0_C wq_9_13
theorem hd_X7_placeOf : yX7_placeOf.cls = RX7 ∧ yX7_placeOf.cls ≠ "java/lang/invoke/MethodHandle" ∧ yX7_placeOf.cls ≠ "java/lang/invoke/VarHandle" ∧ (parseMethodDescriptor yX7_placeOf.desc).map (fun d => d.parameters.length) = some 1 := by decide +kernel
theorem hs_X7_placeOf : yX7_placeOf.cls ≠ "java/lang/invoke/MethodHandle" ∧ yX7_placeOf.cls ≠ "java/lang/invoke/VarHandle" ∧ (parseMethodDescriptor yX7_placeOf.desc).map (fun d => d.parameters.length) = some 1 := hd_X7_placeOf.2
theorem gn_X7_placeOf : GoodIn wsL_law (Cond.code yX7_placeOf cX7_placeOf 4 (some .int) :: wsL_law) := w0_C wq_20_5
theorem hd_X7_pressureBy : yX7_pressureBy.cls = RX7 ∧ yX7_pressureBy.cls ≠ "java/lang/invoke/MethodHandle" ∧ yX7_pressureBy.cls ≠ "java/lang/invoke/VarHandle" ∧ (parseMethodDescriptor yX7_pressureBy.desc).map (fun d => d.parameters.length) = some 2 := by decide +kernel
theorem hs_X7_pressureBy : yX7_pressureBy.cls ≠ "java/lang/invoke/MethodHandle" ∧ yX7_pressureBy.cls ≠ "java/lang/invoke/VarHandle" ∧ (parseMethodDescriptor yX7_pressureBy.desc).map (fun d => d.parameters.length) = some 2 := hd_X7_pressureBy.2
theorem gn_X7_pressureBy : GoodIn wsL_law (Cond.code yX7_pressureBy cX7_pressureBy 3 (some .int) :: wsL_law) := w0_C wq_10_1
theorem hd_X7_pressureOf : yX7_pressureOf.cls = RX7 ∧ yX7_pressureOf.cls ≠ "java/lang/invoke/MethodHandle" ∧ yX7_pressureOf.cls ≠ "java/lang/invoke/VarHandle" ∧ (parseMethodDescriptor yX7_pressureOf.desc).map (fun d => d.parameters.length) = some 1 := by decide +kernel
theorem hs_X7_pressureOf : yX7_pressureOf.cls ≠ "java/lang/invoke/MethodHandle" ∧ yX7_pressureOf.cls ≠ "java/lang/invoke/VarHandle" ∧ (parseMethodDescriptor yX7_pressureOf.desc).map (fun d => d.parameters.length) = some 1 := hd_X7_pressureOf.2
theorem gn_X7_pressureOf : GoodIn wsL_law (Cond.code yX7_pressureOf cX7_pressureOf 2 (some .int) :: wsL_law) := w0_C wq_9_17
theorem hd_X7_reads : yX7_reads.cls = RX7 ∧ yX7_reads.cls ≠ "java/lang/invoke/MethodHandle" ∧ yX7_reads.cls ≠ "java/lang/invoke/VarHandle" ∧ (parseMethodDescriptor yX7_reads.desc).map (fun d => d.parameters.length) = some 2 := by decide +kernel
theorem hs_X7_reads : yX7_reads.cls ≠ "java/lang/invoke/MethodHandle" ∧ yX7_reads.cls ≠ "java/lang/invoke/VarHandle" ∧ (parseMethodDescriptor yX7_reads.desc).map (fun d => d.parameters.length) = some 2 := hd_X7_reads.2
theorem gn_X7_reads : GoodIn wsL_law (Cond.code yX7_reads cX7_reads 2 (some .int) :: wsL_law) := w0_C wq_19_13
theorem hd_X7_readsGauge : yX7_readsGauge.cls = RX7 ∧ yX7_readsGauge.cls ≠ "java/lang/invoke/MethodHandle" ∧ yX7_readsGauge.cls ≠ "java/lang/invoke/VarHandle" ∧ (parseMethodDescriptor yX7_readsGauge.desc).map (fun d => d.parameters.length) = some 0 := by decide +kernel
theorem hs_X7_readsGauge : yX7_readsGauge.cls ≠ "java/lang/invoke/MethodHandle" ∧ yX7_readsGauge.cls ≠ "java/lang/invoke/VarHandle" ∧ (parseMethodDescriptor yX7_readsGauge.desc).map (fun d => d.parameters.length) = some 0 := hd_X7_readsGauge.2
theorem gn_X7_readsGauge : GoodIn wsL_law (Cond.code yX7_readsGauge cX7_readsGauge 3 (some .boolean) :: wsL_law) := w0_C wq_29_15
theorem hd_X7_readsOrder : yX7_readsOrder.cls = RX7 ∧ yX7_readsOrder.cls ≠ "java/lang/invoke/MethodHandle" ∧ yX7_readsOrder.cls ≠ "java/lang/invoke/VarHandle" ∧ (parseMethodDescriptor yX7_readsOrder.desc).map (fun d => d.parameters.length) = some 0 := by decide +kernel
theorem hs_X7_readsOrder : yX7_readsOrder.cls ≠ "java/lang/invoke/MethodHandle" ∧ yX7_readsOrder.cls ≠ "java/lang/invoke/VarHandle" ∧ (parseMethodDescriptor yX7_readsOrder.desc).map (fun d => d.parameters.length) = some 0 := hd_X7_readsOrder.2
theorem gn_X7_readsOrder : GoodIn wsL_law (Cond.code yX7_readsOrder cX7_readsOrder 1 (some .boolean) :: wsL_law) := w0_C wq_28_21
theorem hd_X7_record : yX7_record.cls = RX7 ∧ yX7_record.cls ≠ "java/lang/invoke/MethodHandle" ∧ yX7_record.cls ≠ "java/lang/invoke/VarHandle" ∧ (parseMethodDescriptor yX7_record.desc).map (fun d => d.parameters.length) = some 0 := by decide +kernel
theorem hs_X7_record : yX7_record.cls ≠ "java/lang/invoke/MethodHandle" ∧ yX7_record.cls ≠ "java/lang/invoke/VarHandle" ∧ (parseMethodDescriptor yX7_record.desc).map (fun d => d.parameters.length) = some 0 := hd_X7_record.2
theorem gn_X7_record : GoodIn wsL_law (Cond.code yX7_record cX7_record 2 none :: wsL_law) := w0_C wq_8_5
theorem hd_X7_rounded : yX7_rounded.cls = RX7 ∧ yX7_rounded.cls ≠ "java/lang/invoke/MethodHandle" ∧ yX7_rounded.cls ≠ "java/lang/invoke/VarHandle" ∧ (parseMethodDescriptor yX7_rounded.desc).map (fun d => d.parameters.length) = some 2 := by decide +kernel
theorem hs_X7_rounded : yX7_rounded.cls ≠ "java/lang/invoke/MethodHandle" ∧ yX7_rounded.cls ≠ "java/lang/invoke/VarHandle" ∧ (parseMethodDescriptor yX7_rounded.desc).map (fun d => d.parameters.length) = some 2 := hd_X7_rounded.2
theorem gn_X7_rounded : GoodIn wsL_law (Cond.code yX7_rounded cX7_rounded 2 (some .int) :: wsL_law) := w0_C wq_10_9
theorem hd_X7_setPart : yX7_setPart.cls = RX7 ∧ yX7_setPart.cls ≠ "java/lang/invoke/MethodHandle" ∧ yX7_setPart.cls ≠ "java/lang/invoke/VarHandle" ∧ (parseMethodDescriptor yX7_setPart.desc).map (fun d => d.parameters.length) = some 3 := by decide +kernel
theorem hs_X7_setPart : yX7_setPart.cls ≠ "java/lang/invoke/MethodHandle" ∧ yX7_setPart.cls ≠ "java/lang/invoke/VarHandle" ∧ (parseMethodDescriptor yX7_setPart.desc).map (fun d => d.parameters.length) = some 3 := hd_X7_setPart.2
theorem gn_X7_setPart : GoodIn wsL_law (Cond.code yX7_setPart cX7_setPart 4 none :: wsL_law) := w0_C wq_9_1
theorem hd_X7_sets : yX7_sets.cls = RX7 ∧ yX7_sets.cls ≠ "java/lang/invoke/MethodHandle" ∧ yX7_sets.cls ≠ "java/lang/invoke/VarHandle" ∧ (parseMethodDescriptor yX7_sets.desc).map (fun d => d.parameters.length) = some 2 := by decide +kernel
theorem hs_X7_sets : yX7_sets.cls ≠ "java/lang/invoke/MethodHandle" ∧ yX7_sets.cls ≠ "java/lang/invoke/VarHandle" ∧ (parseMethodDescriptor yX7_sets.desc).map (fun d => d.parameters.length) = some 2 := hd_X7_sets.2
theorem gn_X7_sets : GoodIn wsL_law (Cond.code yX7_sets cX7_sets 4 (some .int) :: wsL_law) := w0_C wq_8_13
theorem hd_X7_size : yX7_size.cls = RX7 ∧ yX7_size.cls ≠ "java/lang/invoke/MethodHandle" ∧ yX7_size.cls ≠ "java/lang/invoke/VarHandle" ∧ (parseMethodDescriptor yX7_size.desc).map (fun d => d.parameters.length) = some 1 := by decide +kernel
theorem hs_X7_size : yX7_size.cls ≠ "java/lang/invoke/MethodHandle" ∧ yX7_size.cls ≠ "java/lang/invoke/VarHandle" ∧ (parseMethodDescriptor yX7_size.desc).map (fun d => d.parameters.length) = some 1 := hd_X7_size.2
theorem gn_X7_size : GoodIn wsL_law (Cond.code yX7_size cX7_size 1 (some .int) :: wsL_law) := w0_C wq_10_18
theorem hd_X7_takeDigit : yX7_takeDigit.cls = RX7 ∧ yX7_takeDigit.cls ≠ "java/lang/invoke/MethodHandle" ∧ yX7_takeDigit.cls ≠ "java/lang/invoke/VarHandle" ∧ (parseMethodDescriptor yX7_takeDigit.desc).map (fun d => d.parameters.length) = some 0 := by decide +kernel
theorem hs_X7_takeDigit : yX7_takeDigit.cls ≠ "java/lang/invoke/MethodHandle" ∧ yX7_takeDigit.cls ≠ "java/lang/invoke/VarHandle" ∧ (parseMethodDescriptor yX7_takeDigit.desc).map (fun d => d.parameters.length) = some 0 := hd_X7_takeDigit.2
theorem gn_X7_takeDigit : GoodIn wsL_law (Cond.code yX7_takeDigit cX7_takeDigit 2 (some .int) :: wsL_law) := w0_C wq_29_11
theorem hd_X7_takeNumber : yX7_takeNumber.cls = RX7 ∧ yX7_takeNumber.cls ≠ "java/lang/invoke/MethodHandle" ∧ yX7_takeNumber.cls ≠ "java/lang/invoke/VarHandle" ∧ (parseMethodDescriptor yX7_takeNumber.desc).map (fun d => d.parameters.length) = some 0 := by decide +kernel
theorem hs_X7_takeNumber : yX7_takeNumber.cls ≠ "java/lang/invoke/MethodHandle" ∧ yX7_takeNumber.cls ≠ "java/lang/invoke/VarHandle" ∧ (parseMethodDescriptor yX7_takeNumber.desc).map (fun d => d.parameters.length) = some 0 := hd_X7_takeNumber.2
theorem gn_X7_takeNumber : GoodIn wsL_law (Cond.code yX7_takeNumber cX7_takeNumber 2 (some .int) :: wsL_law) := w0_C wq_29_7
theorem hd_X7_tests : yX7_tests.cls = RX7 ∧ yX7_tests.cls ≠ "java/lang/invoke/MethodHandle" ∧ yX7_tests.cls ≠ "java/lang/invoke/VarHandle" ∧ (parseMethodDescriptor yX7_tests.desc).map (fun d => d.parameters.length) = some 2 := by decide +kernel
theorem hs_X7_tests : yX7_tests.cls ≠ "java/lang/invoke/MethodHandle" ∧ yX7_tests.cls ≠ "java/lang/invoke/VarHandle" ∧ (parseMethodDescriptor yX7_tests.desc).map (fun d => d.parameters.length) = some 2 := hd_X7_tests.2
theorem gn_X7_tests : GoodIn wsL_law (Cond.code yX7_tests cX7_tests 10 none :: wsL_law) := w0_C wq_19_5
theorem hd_X7_truth : yX7_truth.cls = RX7 ∧ yX7_truth.cls ≠ "java/lang/invoke/MethodHandle" ∧ yX7_truth.cls ≠ "java/lang/invoke/VarHandle" ∧ (parseMethodDescriptor yX7_truth.desc).map (fun d => d.parameters.length) = some 2 := by decide +kernel
theorem hs_X7_truth : yX7_truth.cls ≠ "java/lang/invoke/MethodHandle" ∧ yX7_truth.cls ≠ "java/lang/invoke/VarHandle" ∧ (parseMethodDescriptor yX7_truth.desc).map (fun d => d.parameters.length) = some 2 := hd_X7_truth.2
theorem gn_X7_truth : GoodIn wsL_law (Cond.code yX7_truth cX7_truth 3 (some .int) :: wsL_law) := w0_C wq_10_15
theorem hd_X7_voids : yX7_voids.cls = RX7 ∧ yX7_voids.cls ≠ "java/lang/invoke/MethodHandle" ∧ yX7_voids.cls ≠ "java/lang/invoke/VarHandle" ∧ (parseMethodDescriptor yX7_voids.desc).map (fun d => d.parameters.length) = some 1 := by decide +kernel
theorem hs_X7_voids : yX7_voids.cls ≠ "java/lang/invoke/MethodHandle" ∧ yX7_voids.cls ≠ "java/lang/invoke/VarHandle" ∧ (parseMethodDescriptor yX7_voids.desc).map (fun d => d.parameters.length) = some 1 := hd_X7_voids.2
theorem gn_X7_voids : GoodIn wsL_law (Cond.code yX7_voids cX7_voids 3 none :: wsL_law) := w0_C wq_8_21
theorem hd_X7_voidsAll : yX7_voidsAll.cls = RX7 ∧ yX7_voidsAll.cls ≠ "java/lang/invoke/MethodHandle" ∧ yX7_voidsAll.cls ≠ "java/lang/invoke/VarHandle" ∧ (parseMethodDescriptor yX7_voidsAll.desc).map (fun d => d.parameters.length) = some 0 := by decide +kernel
theorem hs_X7_voidsAll : yX7_voidsAll.cls ≠ "java/lang/invoke/MethodHandle" ∧ yX7_voidsAll.cls ≠ "java/lang/invoke/VarHandle" ∧ (parseMethodDescriptor yX7_voidsAll.desc).map (fun d => d.parameters.length) = some 0 := hd_X7_voidsAll.2
theorem gn_X7_voidsAll : GoodIn wsL_law (Cond.code yX7_voidsAll cX7_voidsAll 2 none :: wsL_law) := w0_C wq_8_17
theorem hd_X7_weightOf : yX7_weightOf.cls = RX7 ∧ yX7_weightOf.cls ≠ "java/lang/invoke/MethodHandle" ∧ yX7_weightOf.cls ≠ "java/lang/invoke/VarHandle" ∧ (parseMethodDescriptor yX7_weightOf.desc).map (fun d => d.parameters.length) = some 2 := by decide +kernel
theorem hs_X7_weightOf : yX7_weightOf.cls ≠ "java/lang/invoke/MethodHandle" ∧ yX7_weightOf.cls ≠ "java/lang/invoke/VarHandle" ∧ (parseMethodDescriptor yX7_weightOf.desc).map (fun d => d.parameters.length) = some 2 := hd_X7_weightOf.2
theorem gn_X7_weightOf : GoodIn wsL_law (Cond.code yX7_weightOf cX7_weightOf 3 (some .int) :: wsL_law) := w0_C wq_10_5
theorem hd_X7_whyNoGauge : yX7_whyNoGauge.cls = RX7 ∧ yX7_whyNoGauge.cls ≠ "java/lang/invoke/MethodHandle" ∧ yX7_whyNoGauge.cls ≠ "java/lang/invoke/VarHandle" ∧ (parseMethodDescriptor yX7_whyNoGauge.desc).map (fun d => d.parameters.length) = some 3 := by decide +kernel
theorem hs_X7_whyNoGauge : yX7_whyNoGauge.cls ≠ "java/lang/invoke/MethodHandle" ∧ yX7_whyNoGauge.cls ≠ "java/lang/invoke/VarHandle" ∧ (parseMethodDescriptor yX7_whyNoGauge.desc).map (fun d => d.parameters.length) = some 3 := hd_X7_whyNoGauge.2
theorem gn_X7_whyNoGauge : GoodIn wsL_law (Cond.code yX7_whyNoGauge cX7_whyNoGauge 4 (some .int) :: wsL_law) := w0_C wq_14_22
theorem hd_X7_whyNoRing : yX7_whyNoRing.cls = RX7 ∧ yX7_whyNoRing.cls ≠ "java/lang/invoke/MethodHandle" ∧ yX7_whyNoRing.cls ≠ "java/lang/invoke/VarHandle" ∧ (parseMethodDescriptor yX7_whyNoRing.desc).map (fun d => d.parameters.length) = some 1 := by decide +kernel
theorem hs_X7_whyNoRing : yX7_whyNoRing.cls ≠ "java/lang/invoke/MethodHandle" ∧ yX7_whyNoRing.cls ≠ "java/lang/invoke/VarHandle" ∧ (parseMethodDescriptor yX7_whyNoRing.desc).map (fun d => d.parameters.length) = some 1 := hd_X7_whyNoRing.2
theorem gn_X7_whyNoRing : GoodIn wsL_law (Cond.code yX7_whyNoRing cX7_whyNoRing 2 (some .int) :: wsL_law) := w0_C wq_11_10
theorem hd_X7_whyNotCertified : yX7_whyNotCertified.cls = RX7 ∧ yX7_whyNotCertified.cls ≠ "java/lang/invoke/MethodHandle" ∧ yX7_whyNotCertified.cls ≠ "java/lang/invoke/VarHandle" ∧ (parseMethodDescriptor yX7_whyNotCertified.desc).map (fun d => d.parameters.length) = some 1 := by decide +kernel
theorem hs_X7_whyNotCertified : yX7_whyNotCertified.cls ≠ "java/lang/invoke/MethodHandle" ∧ yX7_whyNotCertified.cls ≠ "java/lang/invoke/VarHandle" ∧ (parseMethodDescriptor yX7_whyNotCertified.desc).map (fun d => d.parameters.length) = some 1 := hd_X7_whyNotCertified.2
theorem gn_X7_whyNotCertified : GoodIn wsL_law (Cond.code yX7_whyNotCertified cX7_whyNotCertified 2 (some .int) :: wsL_law) := w0_C wq_18_20
theorem hd_X7_whyNotDone : yX7_whyNotDone.cls = RX7 ∧ yX7_whyNotDone.cls ≠ "java/lang/invoke/MethodHandle" ∧ yX7_whyNotDone.cls ≠ "java/lang/invoke/VarHandle" ∧ (parseMethodDescriptor yX7_whyNotDone.desc).map (fun d => d.parameters.length) = some 0 := by decide +kernel
theorem hs_X7_whyNotDone : yX7_whyNotDone.cls ≠ "java/lang/invoke/MethodHandle" ∧ yX7_whyNotDone.cls ≠ "java/lang/invoke/VarHandle" ∧ (parseMethodDescriptor yX7_whyNotDone.desc).map (fun d => d.parameters.length) = some 0 := hd_X7_whyNotDone.2
theorem gn_X7_whyNotDone : GoodIn wsL_law (Cond.code yX7_whyNotDone cX7_whyNotDone 1 (some .int) :: wsL_law) := w0_C wq_30_17
theorem hd_X7_whyNotMoved : yX7_whyNotMoved.cls = RX7 ∧ yX7_whyNotMoved.cls ≠ "java/lang/invoke/MethodHandle" ∧ yX7_whyNotMoved.cls ≠ "java/lang/invoke/VarHandle" ∧ (parseMethodDescriptor yX7_whyNotMoved.desc).map (fun d => d.parameters.length) = some 2 := by decide +kernel
theorem hs_X7_whyNotMoved : yX7_whyNotMoved.cls ≠ "java/lang/invoke/MethodHandle" ∧ yX7_whyNotMoved.cls ≠ "java/lang/invoke/VarHandle" ∧ (parseMethodDescriptor yX7_whyNotMoved.desc).map (fun d => d.parameters.length) = some 2 := hd_X7_whyNotMoved.2
theorem gn_X7_whyNotMoved : GoodIn wsL_law (Cond.code yX7_whyNotMoved cX7_whyNotMoved 3 (some .int) :: wsL_law) := w0_C wq_13_2
theorem hd_X7_within : yX7_within.cls = RX7 ∧ yX7_within.cls ≠ "java/lang/invoke/MethodHandle" ∧ yX7_within.cls ≠ "java/lang/invoke/VarHandle" ∧ (parseMethodDescriptor yX7_within.desc).map (fun d => d.parameters.length) = some 3 := by decide +kernel
theorem hs_X7_within : yX7_within.cls ≠ "java/lang/invoke/MethodHandle" ∧ yX7_within.cls ≠ "java/lang/invoke/VarHandle" ∧ (parseMethodDescriptor yX7_within.desc).map (fun d => d.parameters.length) = some 3 := hd_X7_within.2
theorem gn_X7_within : GoodIn wsL_law (Cond.code yX7_within cX7_within 3 (some .boolean) :: wsL_law) := w0_C wq_8_1
theorem gv0_17 : GoodIn wsL_law (va_wsS RX0 17 yJ7_copyOf_59c91 (Cond.code yJ7_copyOf_59c91 cJ7_copyOf_59c91 3 (some (.array .int)) :: wsL_law)) := w0_S wq_18_5 wq_18_6 wq_18_7 wq_18_8
theorem gv1_41 : GoodIn wsL_law (wsV RX1 41 RX1 yX1_shown (Cond.code yX1_shown cX1_shown 1 (some .int) :: wsL_law)) := w0_V wq_20_17 wq_17_16 wq_17_17 wq_2_22 wq_17_18
theorem gv2_22 : GoodIn wsL_law (wsV RX2 22 RX4 yX4_copyFrom (Cond.code yX4_copyFrom cX4_copyFrom 3 none :: wsL_law)) := w0_V wq_4_19 wq_4_20 wq_4_21 wq_1_15 wq_4_22
theorem gv3_19 : GoodIn wsL_law (va_wsS RX3 19 yX3_howMany (Cond.code yX3_howMany cX3_howMany 5 (some .int) :: wsL_law)) := w0_S wq_25_18 wq_25_19 wq_2_4 wq_25_20
theorem gv3_33 : GoodIn wsL_law (wsV RX3 33 RX3 yX3_rewind (Cond.code yX3_rewind cX3_rewind 1 none :: wsL_law)) := w0_V wq_27_1 wq_27_2 wq_27_3 wq_2_4 wq_27_4
theorem gv3_36 : GoodIn wsL_law (wsV RX3 36 RX3 yX3_nextOrder (Cond.code yX3_nextOrder cX3_nextOrder 1 (some .boolean) :: wsL_law)) := w0_V wq_27_5 wq_27_6 wq_27_7 wq_2_4 wq_27_8
theorem gv3_43 : GoodIn wsL_law (wsV RX3 43 RX3 yX3_pass (Cond.code yX3_pass cX3_pass 2 (some .boolean) :: wsL_law)) := w0_V wq_27_10 wq_27_11 wq_27_12 wq_2_4 wq_27_13
theorem gv3_47 : GoodIn wsL_law (wsV RX3 47 RX3 yX3_signAt (Cond.code yX3_signAt cX3_signAt 2 (some .int) :: wsL_law)) := w0_V wq_27_14 wq_27_15 wq_27_16 wq_2_4 wq_27_17
theorem gv3_54 : GoodIn wsL_law (wsV RX3 54 RX3 yX3_readNumber (Cond.code yX3_readNumber cX3_readNumber 4 (some .boolean) :: wsL_law)) := w0_V wq_27_18 wq_27_19 wq_27_20 wq_2_4 wq_27_21
theorem gv3_57 : GoodIn wsL_law (wsV RX3 57 RX3 yX3_readDigit (Cond.code yX3_readDigit cX3_readDigit 2 (some .boolean) :: wsL_law)) := w0_V wq_28_1 wq_28_2 wq_28_3 wq_2_4 wq_28_4
theorem gv3_60 : GoodIn wsL_law (wsV RX3 60 RX3 yX3_readValue (Cond.code yX3_readValue cX3_readValue 2 (some .boolean) :: wsL_law)) := w0_V wq_28_5 wq_28_6 wq_28_7 wq_2_4 wq_28_8
theorem gv3_63 : GoodIn wsL_law (va_wsS RX3 63 yX3_isDigit (Cond.code yX3_isDigit cX3_isDigit 1 (some .boolean) :: wsL_law)) := w0_S wq_27_22 wq_27_23 wq_2_4 wq_28_0
theorem gv4_101 : GoodIn wsL_law (wsV RX4 101 RX5 yX5_run (Cond.code yX5_run cX5_run 6 none :: wsL_law)) := w0_V wq_17_4 wq_17_5 wq_17_6 wq_2_0 wq_17_7
theorem gv4_120 : GoodIn wsL_law (wsV RX4 120 RX4 yX4_massOf (Cond.code yX4_massOf cX4_massOf 4 (some .int) :: wsL_law)) := w0_V wq_6_8 wq_6_9 wq_6_10 wq_1_15 wq_6_11
theorem gv4_124 : GoodIn wsL_law (wsV RX4 124 RX4 yX4_pressureOf (Cond.code yX4_pressureOf cX4_pressureOf 3 (some .int) :: wsL_law)) := w0_V wq_6_12 wq_6_13 wq_6_14 wq_1_15 wq_6_15
theorem gv4_133 : GoodIn wsL_law (va_wsS RX4 133 yJ6_bitCount_0f7a4 (Cond.code yJ6_bitCount_0f7a4 cJ6_bitCount_0f7a4 1 (some .int) :: wsL_law)) := w0_S wq_23_5 wq_23_6 wq_23_7 wq_23_8
theorem gv4_138 : GoodIn wsL_law (wsV RX4 138 RX4 yX4_massToNext (Cond.code yX4_massToNext cX4_massToNext 4 (some .int) :: wsL_law)) := w0_V wq_23_12 wq_23_13 wq_23_14 wq_1_15 wq_23_15
theorem gv4_39 : GoodIn wsL_law (wsV RX4 39 RX1 yX1_copyFrom (Cond.code yX1_copyFrom cX1_copyFrom 2 none :: wsL_law)) := w0_V wq_5_6 wq_5_7 wq_5_8 wq_2_22 wq_5_9
theorem gv4_59 : GoodIn wsL_law (wsV RX4 59 RX4 yX4_voidCertificates (Cond.code yX4_voidCertificates cX4_voidCertificates 2 none :: wsL_law)) := w0_V wq_5_19 wq_5_20 wq_5_21 wq_1_15 wq_5_22
theorem gv4_62 : GoodIn wsL_law (wsV RX4 62 RX4 yX4_moveHands (Cond.code yX4_moveHands cX4_moveHands 3 (some .int) :: wsL_law)) := w0_V wq_6_0 wq_6_1 wq_6_2 wq_1_15 wq_6_3
theorem gv4_66 : GoodIn wsL_law (wsV RX4 66 RX4 yX4_hasRing (Cond.code yX4_hasRing cX4_hasRing 2 (some .boolean) :: wsL_law)) := w0_V wq_12_11 wq_12_12 wq_12_13 wq_1_15 wq_12_14
theorem gv4_70 : GoodIn wsL_law (wsV RX4 70 RX4 yX4_isStacked (Cond.code yX4_isStacked cX4_isStacked 2 (some .boolean) :: wsL_law)) := w0_V wq_12_15 wq_12_16 wq_12_17 wq_1_15 wq_12_18
theorem gv4_73 : GoodIn wsL_law (wsV RX4 73 RX1 yX1_begin (Cond.code yX1_begin cX1_begin 4 none :: wsL_law)) := w0_V wq_14_11 wq_14_12 wq_14_13 wq_2_22 wq_14_14
theorem gv4_77 : GoodIn wsL_law (wsV RX4 77 RX4 yX4_columnPressure (Cond.code yX4_columnPressure cX4_columnPressure 1 (some .int) :: wsL_law)) := w0_V wq_6_4 wq_6_5 wq_6_6 wq_1_15 wq_6_7
theorem gv4_80 : GoodIn wsL_law (wsV RX4 80 RX1 yX1_follow (Cond.code yX1_follow cX1_follow 4 none :: wsL_law)) := w0_V wq_7_0 wq_7_1 wq_7_2 wq_2_22 wq_7_3
theorem gv4_84 : GoodIn wsL_law (wsV RX4 84 RX4 yX4_gaugeAt (Cond.code yX4_gaugeAt cX4_gaugeAt 2 (some (.object "GaugeColumns$Gauge")) :: wsL_law)) := w0_V wq_15_15 wq_15_16 wq_15_17 wq_1_15 wq_15_18
theorem gv4_95 : GoodIn wsL_law (wsV RX4 95 RX5 yX5_prepare (Cond.code yX5_prepare cX5_prepare 5 none :: wsL_law)) := w0_V wq_16_15 wq_16_16 wq_16_17 wq_2_0 wq_16_18
theorem gv5_34 : GoodIn wsL_law (wsV RX5 34 RX4 yX4_placeOf (Cond.code yX4_placeOf cX4_placeOf 4 (some .int) :: wsL_law)) := w0_V wq_16_23 wq_17_0 wq_17_1 wq_1_15 wq_17_2
theorem gv5_44 : GoodIn wsL_law (wsV RX5 44 RX4 yX4_pressureOf (Cond.code yX4_pressureOf cX4_pressureOf 3 (some .int) :: wsL_law)) := w0_V wq_17_3 wq_6_13 wq_6_14 wq_1_15 wq_6_15
theorem gv5_57 : GoodIn wsL_law (wsV RX5 57 RX1 yX1_begin (Cond.code yX1_begin cX1_begin 4 none :: wsL_law)) := w0_V wq_17_13 wq_14_12 wq_14_13 wq_2_22 wq_14_14
theorem gv5_67 : GoodIn wsL_law (wsV RX5 67 RX1 yX1_follow (Cond.code yX1_follow cX1_follow 4 none :: wsL_law)) := w0_V wq_17_14 wq_7_1 wq_7_2 wq_2_22 wq_7_3
theorem gv5_71 : GoodIn wsL_law (wsV RX5 71 RX1 yX1_shown (Cond.code yX1_shown cX1_shown 1 (some .int) :: wsL_law)) := w0_V wq_17_15 wq_17_16 wq_17_17 wq_2_22 wq_17_18
theorem gv6_119 : GoodIn wsL_law (wsV RX6 119 RX4 yX4_massOf (Cond.code yX4_massOf cX4_massOf 4 (some .int) :: wsL_law)) := w0_V wq_21_18 wq_6_9 wq_6_10 wq_1_15 wq_6_11
theorem gv6_125 : GoodIn wsL_law (va_wsS RX6 125 yX6_weightOf (Cond.code yX6_weightOf cX6_weightOf 2 (some .int) :: wsL_law)) := w0_S wq_21_19 wq_6_16 wq_1_2 wq_6_17
theorem gv6_128 : GoodIn wsL_law (wsV RX6 128 RX4 yX4_columnPressure (Cond.code yX4_columnPressure cX4_columnPressure 1 (some .int) :: wsL_law)) := w0_V wq_21_20 wq_6_5 wq_6_6 wq_1_15 wq_6_7
theorem gv6_131 : GoodIn wsL_law (wsV RX6 131 RX4 yX4_countCertificates (Cond.code yX4_countCertificates cX4_countCertificates 3 (some .int) :: wsL_law)) := w0_V wq_21_21 wq_21_22 wq_21_23 wq_1_15 wq_22_0
theorem gv6_140 : GoodIn wsL_law (wsV RX6 140 RX4 yX4_pressureOf (Cond.code yX4_pressureOf cX4_pressureOf 3 (some .int) :: wsL_law)) := w0_V wq_22_14 wq_6_13 wq_6_14 wq_1_15 wq_6_15
theorem gv6_143 : GoodIn wsL_law (wsV RX6 143 RX4 yX4_nearestTo (Cond.code yX4_nearestTo cX4_nearestTo 7 (some .int) :: wsL_law)) := w0_V wq_22_23 wq_23_0 wq_23_1 wq_1_15 wq_23_2
theorem gv6_146 : GoodIn wsL_law (wsV RX6 146 RX5 yX5_prepare (Cond.code yX5_prepare cX5_prepare 5 none :: wsL_law)) := w0_V wq_24_7 wq_16_16 wq_16_17 wq_2_0 wq_16_18
theorem gv6_152 : GoodIn wsL_law (wsV RX6 152 RX5 yX5_run (Cond.code yX5_run cX5_run 6 none :: wsL_law)) := w0_V wq_24_8 wq_17_5 wq_17_6 wq_2_0 wq_17_7
theorem gv6_170 : GoodIn wsL_law (wsV RX6 170 RX3 yX3_append (Cond.code yX3_append cX3_append 5 (some .int) :: wsL_law)) := w0_V wq_25_12 wq_25_13 wq_25_14 wq_2_4 wq_25_15
theorem gv6_174 : GoodIn wsL_law (wsV RX6 174 RX3 yX3_clear (Cond.code yX3_clear cX3_clear 2 (some .int) :: wsL_law)) := w0_V wq_26_8 wq_26_9 wq_26_10 wq_2_4 wq_26_11
theorem gv6_177 : GoodIn wsL_law (wsV RX6 177 RX3 yX3_findFault (Cond.code yX3_findFault cX3_findFault 3 (some .int) :: wsL_law)) := w0_V wq_26_20 wq_26_21 wq_26_22 wq_2_4 wq_26_23
theorem gv6_180 : GoodIn wsL_law (wsV RX6 180 RX3 yX3_rewind (Cond.code yX3_rewind cX3_rewind 1 none :: wsL_law)) := w0_V wq_30_2 wq_27_2 wq_27_3 wq_2_4 wq_27_4
theorem gv6_183 : GoodIn wsL_law (wsV RX6 183 RX3 yX3_nextOrder (Cond.code yX3_nextOrder cX3_nextOrder 1 (some .boolean) :: wsL_law)) := w0_V wq_30_3 wq_27_6 wq_27_7 wq_2_4 wq_27_8
theorem gv6_187 : GoodIn wsL_law (wsV RX6 187 RX6 yX6_carryOutOrder (Cond.code yX6_carryOutOrder cX6_carryOutOrder 2 (some .int) :: wsL_law)) := w0_V wq_30_4 wq_30_5 wq_30_6 wq_1_2 wq_30_7
theorem gv6_196 : GoodIn wsL_law (wsV RX6 196 RX2 yX2_stepBack (Cond.code yX2_stepBack cX2_stepBack 2 (some .int) :: wsL_law)) := w0_V wq_31_2 wq_31_3 wq_31_4 wq_1_19 wq_31_5
theorem gv6_200 : GoodIn wsL_law (wsV RX6 200 RX4 yX4_copyFrom (Cond.code yX4_copyFrom cX4_copyFrom 3 none :: wsL_law)) := w0_V wq_31_14 wq_4_20 wq_4_21 wq_1_15 wq_4_22
theorem gv6_204 : GoodIn wsL_law (va_wsS RX6 204 yX6_dividedRounded (Cond.code yX6_dividedRounded cX6_dividedRounded 2 (some .int) :: wsL_law)) := w0_S wq_6_19 wq_6_20 wq_1_2 wq_6_21
theorem gv6_41 : GoodIn wsL_law (wsV RX6 41 RX2 yX2_remember (Cond.code yX2_remember cX2_remember 2 none :: wsL_law)) := w0_V wq_4_14 wq_4_15 wq_4_16 wq_1_19 wq_4_17
theorem gv6_45 : GoodIn wsL_law (wsV RX6 45 RX4 yX4_change (Cond.code yX4_change cX4_change 4 (some .int) :: wsL_law)) := w0_V wq_5_15 wq_5_16 wq_5_17 wq_1_15 wq_5_18
theorem gv6_49 : GoodIn wsL_law (wsV RX6 49 RX2 yX2_settle (Cond.code yX2_settle cX2_settle 2 (some .int) :: wsL_law)) := w0_V wq_7_8 wq_7_9 wq_7_10 wq_1_19 wq_7_11
theorem gv6_53 : GoodIn wsL_law (wsV RX6 53 RX4 yX4_addRing (Cond.code yX4_addRing cX4_addRing 2 (some .int) :: wsL_law)) := w0_V wq_10_23 wq_11_0 wq_11_1 wq_1_15 wq_11_2
theorem gv6_56 : GoodIn wsL_law (wsV RX6 56 RX4 yX4_dropRing (Cond.code yX4_dropRing cX4_dropRing 1 (some .int) :: wsL_law)) := w0_V wq_11_19 wq_11_20 wq_11_21 wq_1_15 wq_11_22
theorem gv6_60 : GoodIn wsL_law (wsV RX6 60 RX4 yX4_putOn (Cond.code yX4_putOn cX4_putOn 2 (some .int) :: wsL_law)) := w0_V wq_12_7 wq_12_8 wq_12_9 wq_1_15 wq_12_10
theorem gv6_63 : GoodIn wsL_law (wsV RX6 63 RX4 yX4_takeOff (Cond.code yX4_takeOff cX4_takeOff 2 (some .int) :: wsL_law)) := w0_V wq_13_19 wq_13_20 wq_13_21 wq_1_15 wq_13_22
theorem gv6_66 : GoodIn wsL_law (wsV RX6 66 RX4 yX4_addGauge (Cond.code yX4_addGauge cX4_addGauge 4 (some .int) :: wsL_law)) := w0_V wq_14_7 wq_14_8 wq_14_9 wq_1_15 wq_14_10
theorem gv6_70 : GoodIn wsL_law (wsV RX6 70 RX4 yX4_adjust (Cond.code yX4_adjust cX4_adjust 5 (some .int) :: wsL_law)) := w0_V wq_15_10 wq_15_11 wq_15_12 wq_1_15 wq_15_13
theorem gv6_73 : GoodIn wsL_law (wsV RX6 73 RX4 yX4_certifyBy (Cond.code yX4_certifyBy cX4_certifyBy 4 (some .int) :: wsL_law)) := w0_V wq_16_7 wq_16_8 wq_16_9 wq_1_15 wq_16_10
theorem gv6_77 : GoodIn wsL_law (wsV RX6 77 RX4 yX4_hasRing (Cond.code yX4_hasRing cX4_hasRing 2 (some .boolean) :: wsL_law)) := w0_V wq_19_19 wq_12_12 wq_12_13 wq_1_15 wq_12_14
theorem gv6_85 : GoodIn wsL_law (wsV RX6 85 RX4 yX4_isStacked (Cond.code yX4_isStacked cX4_isStacked 2 (some .boolean) :: wsL_law)) := w0_V wq_19_20 wq_12_16 wq_12_17 wq_1_15 wq_12_18
theorem gv6_88 : GoodIn wsL_law (wsV RX6 88 RX4 yX4_placeOf (Cond.code yX4_placeOf cX4_placeOf 4 (some .int) :: wsL_law)) := w0_V wq_19_21 wq_17_0 wq_17_1 wq_1_15 wq_17_2
theorem gv6_91 : GoodIn wsL_law (wsV RX6 91 RX4 yX4_gaugeAt (Cond.code yX4_gaugeAt cX4_gaugeAt 2 (some (.object "GaugeColumns$Gauge")) :: wsL_law)) := w0_V wq_20_10 wq_15_16 wq_15_17 wq_1_15 wq_15_18
theorem gv6_95 : GoodIn wsL_law (wsV RX6 95 RX1 yX1_tell (Cond.code yX1_tell cX1_tell 2 (some .int) :: wsL_law)) := w0_V wq_20_11 wq_20_12 wq_20_13 wq_2_22 wq_20_14
theorem gv7_100 : GoodIn wsL_law (wsV RX7 100 RX7 yX7_handsGo (Cond.code yX7_handsGo cX7_handsGo 2 none :: wsL_law)) := w0_V wq_9_2 wq_9_3 wq_9_4 wq_1_5 wq_9_5
theorem gv7_103 : GoodIn wsL_law (va_wsS RX7 103 yX7_isValue (Cond.code yX7_isValue cX7_isValue 2 (some .boolean) :: wsL_law)) := w0_S wq_7_20 wq_7_21 wq_1_5 wq_7_22
theorem gv7_107 : GoodIn wsL_law (wsV RX7 107 RX7 yX7_record (Cond.code yX7_record cX7_record 2 none :: wsL_law)) := w0_V wq_8_2 wq_8_3 wq_8_4 wq_1_5 wq_8_5
theorem gv7_110 : GoodIn wsL_law (wsV RX7 110 RX7 yX7_sets (Cond.code yX7_sets cX7_sets 4 (some .int) :: wsL_law)) := w0_V wq_8_10 wq_8_11 wq_8_12 wq_1_5 wq_8_13
theorem gv7_113 : GoodIn wsL_law (wsV RX7 113 RX7 yX7_whyNoRing (Cond.code yX7_whyNoRing cX7_whyNoRing 2 (some .int) :: wsL_law)) := w0_V wq_11_7 wq_11_8 wq_11_9 wq_1_5 wq_11_10
theorem gv7_116 : GoodIn wsL_law (wsV RX7 116 RX7 yX7_comes (Cond.code yX7_comes cX7_comes 2 (some .int) :: wsL_law)) := w0_V wq_11_11 wq_11_12 wq_11_13 wq_1_5 wq_11_14
theorem gv7_119 : GoodIn wsL_law (wsV RX7 119 RX7 yX7_isRing (Cond.code yX7_isRing cX7_isRing 2 (some .boolean) :: wsL_law)) := w0_V wq_13_3 wq_13_4 wq_13_5 wq_1_5 wq_13_6
theorem gv7_123 : GoodIn wsL_law (wsV RX7 123 RX7 yX7_isStacked (Cond.code yX7_isStacked cX7_isStacked 2 (some .boolean) :: wsL_law)) := w0_V wq_13_7 wq_13_8 wq_13_9 wq_1_5 wq_13_10
theorem gv7_126 : GoodIn wsL_law (wsV RX7 126 RX7 yX7_whyNotMoved (Cond.code yX7_whyNotMoved cX7_whyNotMoved 3 (some .int) :: wsL_law)) := w0_V wq_12_23 wq_13_0 wq_13_1 wq_1_5 wq_13_2
theorem gv7_130 : GoodIn wsL_law (wsV RX7 130 RX7 yX7_isMoved (Cond.code yX7_isMoved cX7_isMoved 2 (some .int) :: wsL_law)) := w0_V wq_13_11 wq_13_12 wq_13_13 wq_1_5 wq_13_14
theorem gv7_133 : GoodIn wsL_law (va_wsS RX7 133 yX7_isError (Cond.code yX7_isError cX7_isError 1 (some .boolean) :: wsL_law)) := w0_S wq_14_23 wq_15_0 wq_1_5 wq_15_1
theorem gv7_136 : GoodIn wsL_law (wsV RX7 136 RX7 yX7_whyNoGauge (Cond.code yX7_whyNoGauge cX7_whyNoGauge 4 (some .int) :: wsL_law)) := w0_V wq_14_19 wq_14_20 wq_14_21 wq_1_5 wq_14_22
theorem gv7_140 : GoodIn wsL_law (wsV RX7 140 RX7 yX7_comesGauge (Cond.code yX7_comesGauge cX7_comesGauge 6 (some .int) :: wsL_law)) := w0_V wq_15_2 wq_15_3 wq_15_4 wq_1_5 wq_15_5
theorem gv7_143 : GoodIn wsL_law (wsV RX7 143 RX7 yX7_isGauge (Cond.code yX7_isGauge cX7_isGauge 2 (some .boolean) :: wsL_law)) := w0_V wq_15_23 wq_16_0 wq_16_1 wq_1_5 wq_16_2
theorem gv7_146 : GoodIn wsL_law (wsV RX7 146 RX7 yX7_tests (Cond.code yX7_tests cX7_tests 10 none :: wsL_law)) := w0_V wq_19_2 wq_19_3 wq_19_4 wq_1_5 wq_19_5
theorem gv7_150 : GoodIn wsL_law (wsV RX7 150 RX7 yX7_whyNotCertified (Cond.code yX7_whyNotCertified cX7_whyNotCertified 2 (some .int) :: wsL_law)) := w0_V wq_18_17 wq_18_18 wq_18_19 wq_1_5 wq_18_20
theorem gv7_153 : GoodIn wsL_law (wsV RX7 153 RX7 yX7_certifies (Cond.code yX7_certifies cX7_certifies 3 (some .int) :: wsL_law)) := w0_V wq_18_21 wq_18_22 wq_18_23 wq_1_5 wq_19_0
theorem gv7_156 : GoodIn wsL_law (wsV RX7 156 RX7 yX7_placeOf (Cond.code yX7_placeOf cX7_placeOf 4 (some .int) :: wsL_law)) := w0_V wq_20_2 wq_20_3 wq_20_4 wq_1_5 wq_20_5
theorem gv7_159 : GoodIn wsL_law (wsV RX7 159 RX7 yX7_certificates (Cond.code yX7_certificates cX7_certificates 3 (some .int) :: wsL_law)) := w0_V wq_22_6 wq_22_7 wq_22_8 wq_1_5 wq_22_9
theorem gv7_166 : GoodIn wsL_law (va_wsS RX7 166 yX7_bits (Cond.code yX7_bits cX7_bits 3 (some .int) :: wsL_law)) := w0_S wq_23_20 wq_23_21 wq_1_5 wq_23_22
theorem gv7_174 : GoodIn wsL_law (wsV RX7 174 RX7 yX7_character (Cond.code yX7_character cX7_character 2 (some .int) :: wsL_law)) := w0_V wq_29_0 wq_29_1 wq_29_2 wq_1_5 wq_29_3
theorem gv7_177 : GoodIn wsL_law (wsV RX7 177 RX7 yX7_takeDigit (Cond.code yX7_takeDigit cX7_takeDigit 2 (some .int) :: wsL_law)) := w0_V wq_29_8 wq_29_9 wq_29_10 wq_1_5 wq_29_11
theorem gv7_180 : GoodIn wsL_law (wsV RX7 180 RX7 yX7_isNext (Cond.code yX7_isNext cX7_isNext 3 (some .boolean) :: wsL_law)) := w0_V wq_29_18 wq_29_19 wq_29_20 wq_1_5 wq_29_21
theorem gv7_183 : GoodIn wsL_law (wsV RX7 183 RX7 yX7_takeNumber (Cond.code yX7_takeNumber cX7_takeNumber 2 (some .int) :: wsL_law)) := w0_V wq_29_4 wq_29_5 wq_29_6 wq_1_5 wq_29_7
theorem gv7_198 : GoodIn wsL_law (wsV RX7 198 RX7 yX7_readsGauge (Cond.code yX7_readsGauge cX7_readsGauge 3 (some .boolean) :: wsL_law)) := w0_V wq_29_12 wq_29_13 wq_29_14 wq_1_5 wq_29_15
theorem gv7_202 : GoodIn wsL_law (wsV RX7 202 RX7 yX7_readsOrder (Cond.code yX7_readsOrder cX7_readsOrder 1 (some .boolean) :: wsL_law)) := w0_V wq_28_18 wq_28_19 wq_28_20 wq_1_5 wq_28_21
theorem gv7_205 : GoodIn wsL_law (wsV RX7 205 RX7 yX7_findFault (Cond.code yX7_findFault cX7_findFault 1 (some .int) :: wsL_law)) := w0_V wq_28_13 wq_28_14 wq_28_15 wq_1_5 wq_28_16
theorem gv7_208 : GoodIn wsL_law (wsV RX7 208 RX7 yX7_whyNotDone (Cond.code yX7_whyNotDone cX7_whyNotDone 1 (some .int) :: wsL_law)) := w0_V wq_30_14 wq_30_15 wq_30_16 wq_1_5 wq_30_17
theorem gv7_211 : GoodIn wsL_law (wsV RX7 211 RX7 yX7_does (Cond.code yX7_does cX7_does 1 none :: wsL_law)) := w0_V wq_30_18 wq_30_19 wq_30_20 wq_1_5 wq_30_21
theorem gv7_35 : GoodIn wsL_law (va_wsS RX7 35 yX7_moves (Cond.code yX7_moves cX7_moves 5 none :: wsL_law)) := w0_S wq_8_7 wq_8_8 wq_1_5 wq_8_9
theorem gv7_39 : GoodIn wsL_law (va_wsS RX7 39 yX7_within (Cond.code yX7_within cX7_within 3 (some .boolean) :: wsL_law)) := w0_S wq_7_23 wq_8_0 wq_1_5 wq_8_1
theorem gv7_44 : GoodIn wsL_law (va_wsS RX7 44 yX7_rounded (Cond.code yX7_rounded cX7_rounded 2 (some .int) :: wsL_law)) := w0_S wq_10_7 wq_10_8 wq_1_5 wq_10_9
theorem gv7_48 : GoodIn wsL_law (wsV RX7 48 RX7 yX7_weightOf (Cond.code yX7_weightOf cX7_weightOf 3 (some .int) :: wsL_law)) := w0_V wq_10_2 wq_10_3 wq_10_4 wq_1_5 wq_10_5
theorem gv7_51 : GoodIn wsL_law (wsV RX7 51 RX7 yX7_massOf (Cond.code yX7_massOf cX7_massOf 4 (some .int) :: wsL_law)) := w0_V wq_9_18 wq_9_19 wq_9_20 wq_1_5 wq_9_21
theorem gv7_55 : GoodIn wsL_law (wsV RX7 55 RX7 yX7_pressureBy (Cond.code yX7_pressureBy cX7_pressureBy 3 (some .int) :: wsL_law)) := w0_V wq_9_22 wq_9_23 wq_10_0 wq_1_5 wq_10_1
theorem gv7_58 : GoodIn wsL_law (va_wsS RX7 58 yX7_size (Cond.code yX7_size cX7_size 1 (some .int) :: wsL_law)) := w0_S wq_10_16 wq_10_17 wq_1_5 wq_10_18
theorem gv7_61 : GoodIn wsL_law (va_wsS RX7 61 yX7_truth (Cond.code yX7_truth cX7_truth 3 (some .int) :: wsL_law)) := w0_S wq_10_13 wq_10_14 wq_1_5 wq_10_15
theorem gv7_64 : GoodIn wsL_law (wsV RX7 64 RX7 yX7_part (Cond.code yX7_part cX7_part 3 (some .int) :: wsL_law)) := w0_V wq_9_10 wq_9_11 wq_9_12 wq_1_5 wq_9_13
theorem gv7_67 : GoodIn wsL_law (wsV RX7 67 RX7 yX7_pressureOf (Cond.code yX7_pressureOf cX7_pressureOf 2 (some .int) :: wsL_law)) := w0_V wq_9_14 wq_9_15 wq_9_16 wq_1_5 wq_9_17
theorem gv7_70 : GoodIn wsL_law (va_wsS RX7 70 yX7_goesTo (Cond.code yX7_goesTo cX7_goesTo 5 (some .int) :: wsL_law)) := w0_S wq_10_10 wq_10_11 wq_1_5 wq_10_12
theorem gv7_74 : GoodIn wsL_law (wsV RX7 74 RX7 yX7_setPart (Cond.code yX7_setPart cX7_setPart 4 none :: wsL_law)) := w0_V wq_8_22 wq_8_23 wq_9_0 wq_1_5 wq_9_1
theorem gv7_78 : GoodIn wsL_law (wsV RX7 78 RX7 yX7_handGoes (Cond.code yX7_handGoes cX7_handGoes 2 none :: wsL_law)) := w0_V wq_9_6 wq_9_7 wq_9_8 wq_1_5 wq_9_9
theorem gv7_82 : GoodIn wsL_law (wsV RX7 82 RX7 yX7_voids (Cond.code yX7_voids cX7_voids 3 none :: wsL_law)) := w0_V wq_8_18 wq_8_19 wq_8_20 wq_1_5 wq_8_21
theorem gv7_91 : GoodIn wsL_law (wsV RX7 91 RX7 yX7_findOrder (Cond.code yX7_findOrder cX7_findOrder 3 none :: wsL_law)) := w0_V wq_19_7 wq_19_8 wq_19_9 wq_1_5 wq_19_10
theorem gv7_94 : GoodIn wsL_law (va_wsS RX7 94 yX7_reads (Cond.code yX7_reads cX7_reads 2 (some .int) :: wsL_law)) := w0_S wq_19_11 wq_19_12 wq_1_5 wq_19_13
theorem gv7_97 : GoodIn wsL_law (wsV RX7 97 RX7 yX7_voidsAll (Cond.code yX7_voidsAll cX7_voidsAll 2 none :: wsL_law)) := w0_V wq_8_14 wq_8_15 wq_8_16 wq_1_5 wq_8_17
