set_option maxRecDepth 20000 in
theorem iwX4_gather_X4 : ∀ w ∈ u_ws RX4 TX4 16, w ∈ wsX4_gather := by decide +kernel
set_option maxRecDepth 20000 in
theorem lkX4_gather_22 : Cond.fieldLink RX4 22 (TX4 2).1 (TX4 2).2.1 (TX4 2).2.2.1 ∈ wsX4_gather := by decide +kernel
set_option maxRecDepth 20000 in
theorem lkX4_gather_33 : Cond.fieldLink RX4 33 (TX4 4).1 (TX4 4).2.1 (TX4 4).2.2.1 ∈ wsX4_gather := by decide +kernel
set_option maxRecDepth 20000 in
theorem ddX2_placeFrom : yX2_placeFrom.cls ≠ "java/lang/invoke/MethodHandle" ∧ yX2_placeFrom.cls ≠ "java/lang/invoke/VarHandle" ∧ (parseMethodDescriptor yX2_placeFrom.desc).map (fun d => d.parameters.length) = some 3 := by decide +kernel
set_option maxRecDepth 20000 in
theorem ddX1_gather : yX1_gather.cls ≠ "java/lang/invoke/MethodHandle" ∧ yX1_gather.cls ≠ "java/lang/invoke/VarHandle" ∧ (parseMethodDescriptor yX1_gather.desc).map (fun d => d.parameters.length) = some 1 := by decide +kernel
set_option maxRecDepth 20000 in
theorem lkX4_gather_37 : Cond.fieldLink RX4 37 (TX4 5).1 (TX4 5).2.1 (TX4 5).2.2.1 ∈ wsX4_gather := by decide +kernel
set_option maxRecDepth 20000 in
theorem ddX2_head : yX2_head.cls ≠ "java/lang/invoke/MethodHandle" ∧ yX2_head.cls ≠ "java/lang/invoke/VarHandle" ∧ (parseMethodDescriptor yX2_head.desc).map (fun d => d.parameters.length) = some 0 := by decide +kernel
set_option maxRecDepth 20000 in
theorem ddX4_beginningAbove : yX4_beginningAbove.cls ≠ "java/lang/invoke/MethodHandle" ∧ yX4_beginningAbove.cls ≠ "java/lang/invoke/VarHandle" ∧ (parseMethodDescriptor yX4_beginningAbove.desc).map (fun d => d.parameters.length) = some 1 := by decide +kernel
