set_option maxRecDepth 20000 in
theorem iwX5_pass_X5 : ∀ w ∈ u_ws RX5 TX5 21, w ∈ wsX5_pass := by decide +kernel
set_option maxRecDepth 20000 in
theorem lkX5_pass_35 : Cond.fieldLink RX5 35 (TX5 10).1 (TX5 10).2.1 (TX5 10).2.2.1 ∈ wsX5_pass := by decide +kernel
set_option maxRecDepth 20000 in
theorem ddX5_goOver : yX5_goOver.cls ≠ "java/lang/invoke/MethodHandle" ∧ yX5_goOver.cls ≠ "java/lang/invoke/VarHandle" ∧ (parseMethodDescriptor yX5_goOver.desc).map (fun d => d.parameters.length) = some 3 := by decide +kernel
set_option maxRecDepth 20000 in
theorem lkX5_pass_45 : Cond.fieldLink RX5 45 (TX5 12).1 (TX5 12).2.1 (TX5 12).2.2.1 ∈ wsX5_pass := by decide +kernel
set_option maxRecDepth 20000 in
theorem lkX5_pass_118 : Cond.fieldLink RX5 118 (TX5 20).1 (TX5 20).2.1 (TX5 20).2.2.1 ∈ wsX5_pass := by decide +kernel
set_option maxRecDepth 20000 in
theorem lkX5_pass_19 : Cond.fieldLink RX5 19 (TX5 5).1 (TX5 5).2.1 (TX5 5).2.2.1 ∈ wsX5_pass := by decide +kernel
set_option maxRecDepth 20000 in
theorem lkX5_pass_54 : Cond.fieldLink RX5 54 (TX5 15).1 (TX5 15).2.1 (TX5 15).2.2.1 ∈ wsX5_pass := by decide +kernel
set_option maxRecDepth 20000 in
theorem ddX5_sweep : yX5_sweep.cls ≠ "java/lang/invoke/MethodHandle" ∧ yX5_sweep.cls ≠ "java/lang/invoke/VarHandle" ∧ (parseMethodDescriptor yX5_sweep.desc).map (fun d => d.parameters.length) = some 1 := by decide +kernel
set_option maxRecDepth 20000 in
theorem ddX5_pass : yX5_pass.cls ≠ "java/lang/invoke/MethodHandle" ∧ yX5_pass.cls ≠ "java/lang/invoke/VarHandle" ∧ (parseMethodDescriptor yX5_pass.desc).map (fun d => d.parameters.length) = some 2 := by decide +kernel
