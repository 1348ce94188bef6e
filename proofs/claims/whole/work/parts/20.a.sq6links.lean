set_option maxRecDepth 20000 in
theorem iwX4_eventA_X4 : ∀ w ∈ u_ws RX4 TX4 16, w ∈ wsX4_eventA := by decide +kernel
set_option maxRecDepth 20000 in
theorem lkX4_eventA_16 : Cond.fieldLink RX4 16 (TX4 1).1 (TX4 1).2.1 (TX4 1).2.2.1 ∈ wsX4_eventA := by decide +kernel
set_option maxRecDepth 20000 in
theorem ddX4_admit : yX4_admit.cls ≠ "java/lang/invoke/MethodHandle" ∧ yX4_admit.cls ≠ "java/lang/invoke/VarHandle" ∧ (parseMethodDescriptor yX4_admit.desc).map (fun d => d.parameters.length) = some 3 := by decide +kernel
set_option maxRecDepth 20000 in
theorem lkX4_eventA_10 : Cond.fieldLink RX4 10 (TX4 0).1 (TX4 0).2.1 (TX4 0).2.2.1 ∈ wsX4_eventA := by decide +kernel
set_option maxRecDepth 20000 in
theorem ddX4_gather : yX4_gather.cls ≠ "java/lang/invoke/MethodHandle" ∧ yX4_gather.cls ≠ "java/lang/invoke/VarHandle" ∧ (parseMethodDescriptor yX4_gather.desc).map (fun d => d.parameters.length) = some 3 := by decide +kernel
set_option maxRecDepth 20000 in
theorem ddX4_countTaken : yX4_countTaken.cls ≠ "java/lang/invoke/MethodHandle" ∧ yX4_countTaken.cls ≠ "java/lang/invoke/VarHandle" ∧ (parseMethodDescriptor yX4_countTaken.desc).map (fun d => d.parameters.length) = some 1 := by decide +kernel
set_option maxRecDepth 20000 in
theorem lkX4_eventA_43 : Cond.fieldLink RX4 43 (TX4 7).1 (TX4 7).2.1 (TX4 7).2.2.1 ∈ wsX4_eventA := by decide +kernel
set_option maxRecDepth 20000 in
theorem lkX4_eventA_29 : Cond.fieldLink RX4 29 (TX4 3).1 (TX4 3).2.1 (TX4 3).2.2.1 ∈ wsX4_eventA := by decide +kernel
set_option maxRecDepth 20000 in
theorem iwX4_eventB_X4 : ∀ w ∈ u_ws RX4 TX4 16, w ∈ wsX4_eventB := by decide +kernel
set_option maxRecDepth 20000 in
theorem lkX4_eventB_10 : Cond.fieldLink RX4 10 (TX4 0).1 (TX4 0).2.1 (TX4 0).2.2.1 ∈ wsX4_eventB := by decide +kernel
set_option maxRecDepth 20000 in
theorem lkX4_eventB_16 : Cond.fieldLink RX4 16 (TX4 1).1 (TX4 1).2.1 (TX4 1).2.2.1 ∈ wsX4_eventB := by decide +kernel
set_option maxRecDepth 20000 in
theorem lkX4_eventB_43 : Cond.fieldLink RX4 43 (TX4 7).1 (TX4 7).2.1 (TX4 7).2.2.1 ∈ wsX4_eventB := by decide +kernel
set_option maxRecDepth 20000 in
theorem lkX4_eventB_29 : Cond.fieldLink RX4 29 (TX4 3).1 (TX4 3).2.1 (TX4 3).2.2.1 ∈ wsX4_eventB := by decide +kernel
