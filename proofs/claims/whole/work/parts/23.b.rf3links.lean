set_option maxRecDepth 20000 in
theorem iwX5_isKept_X5 : ∀ w ∈ u_ws RX5 TX5 21, w ∈ wsX5_isKept := by decide +kernel
set_option maxRecDepth 20000 in
theorem lkX5_isKept_22 : Cond.fieldLink RX5 22 (TX5 6).1 (TX5 6).2.1 (TX5 6).2.2.1 ∈ wsX5_isKept := by decide +kernel
set_option maxRecDepth 20000 in
theorem lkX5_isKept_70 : Cond.fieldLink RX5 70 (TX5 3).1 (TX5 3).2.1 (TX5 3).2.2.1 ∈ wsX5_isKept := by decide +kernel
set_option maxRecDepth 20000 in
theorem ddX5_mark : yX5_mark.cls ≠ "java/lang/invoke/MethodHandle" ∧ yX5_mark.cls ≠ "java/lang/invoke/VarHandle" ∧ (parseMethodDescriptor yX5_mark.desc).map (fun d => d.parameters.length) = some 0 := by decide +kernel
set_option maxRecDepth 20000 in
theorem lkX5_isKept_67 : Cond.fieldLink RX5 67 (TX5 2).1 (TX5 2).2.1 (TX5 2).2.2.1 ∈ wsX5_isKept := by decide +kernel
set_option maxRecDepth 20000 in
theorem ddX5_isOver : yX5_isOver.cls ≠ "java/lang/invoke/MethodHandle" ∧ yX5_isOver.cls ≠ "java/lang/invoke/VarHandle" ∧ (parseMethodDescriptor yX5_isOver.desc).map (fun d => d.parameters.length) = some 2 := by decide +kernel
set_option maxRecDepth 20000 in
theorem iwX5_sweep_X5 : ∀ w ∈ u_ws RX5 TX5 21, w ∈ wsX5_sweep := by decide +kernel
set_option maxRecDepth 20000 in
theorem lkX5_sweep_32 : Cond.fieldLink RX5 32 (TX5 9).1 (TX5 9).2.1 (TX5 9).2.2.1 ∈ wsX5_sweep := by decide +kernel
set_option maxRecDepth 20000 in
theorem ddX5_isKept : yX5_isKept.cls ≠ "java/lang/invoke/MethodHandle" ∧ yX5_isKept.cls ≠ "java/lang/invoke/VarHandle" ∧ (parseMethodDescriptor yX5_isKept.desc).map (fun d => d.parameters.length) = some 2 := by decide +kernel
set_option maxRecDepth 20000 in
theorem lkX5_sweep_22 : Cond.fieldLink RX5 22 (TX5 6).1 (TX5 6).2.1 (TX5 6).2.2.1 ∈ wsX5_sweep := by decide +kernel
set_option maxRecDepth 20000 in
theorem lkX5_sweep_26 : Cond.fieldLink RX5 26 (TX5 7).1 (TX5 7).2.1 (TX5 7).2.2.1 ∈ wsX5_sweep := by decide +kernel
set_option maxRecDepth 20000 in
theorem lkX5_sweep_29 : Cond.fieldLink RX5 29 (TX5 8).1 (TX5 8).2.1 (TX5 8).2.2.1 ∈ wsX5_sweep := by decide +kernel
