set_option maxRecDepth 20000 in
theorem wdX5_goOver_c99 : Cond.constantLong RX5 99 (4000000000) ∈ wsX5_goOver := by decide +kernel
set_option maxRecDepth 20000 in
theorem ddX5_nextEnd : yX5_nextEnd.cls ≠ "java/lang/invoke/MethodHandle" ∧ yX5_nextEnd.cls ≠ "java/lang/invoke/VarHandle" ∧ (parseMethodDescriptor yX5_nextEnd.desc).map (fun d => d.parameters.length) = some 1 := by decide +kernel
set_option maxRecDepth 20000 in
theorem wdX5_goOver_c121 : Cond.constantLong RX5 121 (-4000000000) ∈ wsX5_goOver := by decide +kernel
set_option maxRecDepth 20000 in
theorem ddX5_nextKey : yX5_nextKey.cls ≠ "java/lang/invoke/MethodHandle" ∧ yX5_nextKey.cls ≠ "java/lang/invoke/VarHandle" ∧ (parseMethodDescriptor yX5_nextKey.desc).map (fun d => d.parameters.length) = some 2 := by decide +kernel
set_option maxRecDepth 20000 in
theorem iwX5_goOver_X5 : ∀ w ∈ u_ws RX5 TX5 21, w ∈ wsX5_goOver := by decide +kernel
set_option maxRecDepth 20000 in
theorem lkX5_goOver_118 : Cond.fieldLink RX5 118 (TX5 20).1 (TX5 20).2.1 (TX5 20).2.2.1 ∈ wsX5_goOver := by decide +kernel
set_option maxRecDepth 20000 in
theorem ddX5_gather : yX5_gather.cls ≠ "java/lang/invoke/MethodHandle" ∧ yX5_gather.cls ≠ "java/lang/invoke/VarHandle" ∧ (parseMethodDescriptor yX5_gather.desc).map (fun d => d.parameters.length) = some 2 := by decide +kernel
set_option maxRecDepth 20000 in
theorem lkX5_goOver_109 : Cond.fieldLink RX5 109 (TX5 17).1 (TX5 17).2.1 (TX5 17).2.2.1 ∈ wsX5_goOver := by decide +kernel
set_option maxRecDepth 20000 in
theorem lkX5_goOver_112 : Cond.fieldLink RX5 112 (TX5 18).1 (TX5 18).2.1 (TX5 18).2.2.1 ∈ wsX5_goOver := by decide +kernel
set_option maxRecDepth 20000 in
theorem lkX5_goOver_115 : Cond.fieldLink RX5 115 (TX5 19).1 (TX5 19).2.1 (TX5 19).2.2.1 ∈ wsX5_goOver := by decide +kernel
