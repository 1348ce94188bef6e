set_option maxRecDepth 20000 in
theorem iwX5_event_X5 : ∀ w ∈ u_ws RX5 TX5 21, w ∈ wsX5_event := by decide +kernel
set_option maxRecDepth 20000 in
theorem lkX5_event_32 : Cond.fieldLink RX5 32 (TX5 9).1 (TX5 9).2.1 (TX5 9).2.2.1 ∈ wsX5_event := by decide +kernel
set_option maxRecDepth 20000 in
theorem ddX5_areNear : yX5_areNear.cls ≠ "java/lang/invoke/MethodHandle" ∧ yX5_areNear.cls ≠ "java/lang/invoke/VarHandle" ∧ (parseMethodDescriptor yX5_areNear.desc).map (fun d => d.parameters.length) = some 2 := by decide +kernel
set_option maxRecDepth 20000 in
theorem lkX5_event_22 : Cond.fieldLink RX5 22 (TX5 6).1 (TX5 6).2.1 (TX5 6).2.2.1 ∈ wsX5_event := by decide +kernel
set_option maxRecDepth 20000 in
theorem lkX5_event_26 : Cond.fieldLink RX5 26 (TX5 7).1 (TX5 7).2.1 (TX5 7).2.2.1 ∈ wsX5_event := by decide +kernel
set_option maxRecDepth 20000 in
theorem lkX5_event_29 : Cond.fieldLink RX5 29 (TX5 8).1 (TX5 8).2.1 (TX5 8).2.2.1 ∈ wsX5_event := by decide +kernel
set_option maxRecDepth 20000 in
theorem ddX5_record : yX5_record.cls ≠ "java/lang/invoke/MethodHandle" ∧ yX5_record.cls ≠ "java/lang/invoke/VarHandle" ∧ (parseMethodDescriptor yX5_record.desc).map (fun d => d.parameters.length) = some 6 := by decide +kernel
