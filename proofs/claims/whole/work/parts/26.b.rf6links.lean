set_option maxRecDepth 20000 in
theorem ddX5_isTime : yX5_isTime.cls ≠ "java/lang/invoke/MethodHandle" ∧ yX5_isTime.cls ≠ "java/lang/invoke/VarHandle" ∧ (parseMethodDescriptor yX5_isTime.desc).map (fun d => d.parameters.length) = some 1 := by decide +kernel
set_option maxRecDepth 20000 in
theorem iwX5_take_X5 : ∀ w ∈ u_ws RX5 TX5 21, w ∈ wsX5_take := by decide +kernel
set_option maxRecDepth 20000 in
theorem lkX5_take_67 : Cond.fieldLink RX5 67 (TX5 2).1 (TX5 2).2.1 (TX5 2).2.2.1 ∈ wsX5_take := by decide +kernel
set_option maxRecDepth 20000 in
theorem lkX5_take_48 : Cond.fieldLink RX5 48 (TX5 13).1 (TX5 13).2.1 (TX5 13).2.2.1 ∈ wsX5_take := by decide +kernel
set_option maxRecDepth 20000 in
theorem lkX5_take_32 : Cond.fieldLink RX5 32 (TX5 9).1 (TX5 9).2.1 (TX5 9).2.2.1 ∈ wsX5_take := by decide +kernel
set_option maxRecDepth 20000 in
theorem lkX5_take_16 : Cond.fieldLink RX5 16 (TX5 4).1 (TX5 4).2.1 (TX5 4).2.2.1 ∈ wsX5_take := by decide +kernel
set_option maxRecDepth 20000 in
theorem lkX5_take_45 : Cond.fieldLink RX5 45 (TX5 12).1 (TX5 12).2.1 (TX5 12).2.2.1 ∈ wsX5_take := by decide +kernel
set_option maxRecDepth 20000 in
theorem ddX5_event : yX5_event.cls ≠ "java/lang/invoke/MethodHandle" ∧ yX5_event.cls ≠ "java/lang/invoke/VarHandle" ∧ (parseMethodDescriptor yX5_event.desc).map (fun d => d.parameters.length) = some 5 := by decide +kernel
set_option maxRecDepth 20000 in
theorem lkX5_take_19 : Cond.fieldLink RX5 19 (TX5 5).1 (TX5 5).2.1 (TX5 5).2.2.1 ∈ wsX5_take := by decide +kernel
set_option maxRecDepth 20000 in
theorem lkX5_take_51 : Cond.fieldLink RX5 51 (TX5 14).1 (TX5 14).2.1 (TX5 14).2.2.1 ∈ wsX5_take := by decide +kernel
set_option maxRecDepth 20000 in
theorem lkX5_take_57 : Cond.fieldLink RX5 57 (TX5 16).1 (TX5 16).2.1 (TX5 16).2.2.1 ∈ wsX5_take := by decide +kernel
set_option maxRecDepth 20000 in
theorem ddX5_take : yX5_take.cls ≠ "java/lang/invoke/MethodHandle" ∧ yX5_take.cls ≠ "java/lang/invoke/VarHandle" ∧ (parseMethodDescriptor yX5_take.desc).map (fun d => d.parameters.length) = some 4 := by decide +kernel
