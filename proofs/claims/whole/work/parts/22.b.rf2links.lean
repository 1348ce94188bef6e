set_option maxRecDepth 20000 in
theorem iwX5_nextEnd_X5 : ∀ w ∈ u_ws RX5 TX5 21, w ∈ wsX5_nextEnd := by decide +kernel
set_option maxRecDepth 20000 in
theorem lkX5_nextEnd_32 : Cond.fieldLink RX5 32 (TX5 9).1 (TX5 9).2.1 (TX5 9).2.2.1 ∈ wsX5_nextEnd := by decide +kernel
set_option maxRecDepth 20000 in
theorem ddX5_lastEnd : yX5_lastEnd.cls ≠ "java/lang/invoke/MethodHandle" ∧ yX5_lastEnd.cls ≠ "java/lang/invoke/VarHandle" ∧ (parseMethodDescriptor yX5_lastEnd.desc).map (fun d => d.parameters.length) = some 1 := by decide +kernel
set_option maxRecDepth 20000 in
theorem lkX5_nextEnd_13 : Cond.fieldLink RX5 13 (TX5 1).1 (TX5 1).2.1 (TX5 1).2.2.1 ∈ wsX5_nextEnd := by decide +kernel
set_option maxRecDepth 20000 in
theorem ddX5_isIn : yX5_isIn.cls ≠ "java/lang/invoke/MethodHandle" ∧ yX5_isIn.cls ≠ "java/lang/invoke/VarHandle" ∧ (parseMethodDescriptor yX5_isIn.desc).map (fun d => d.parameters.length) = some 2 := by decide +kernel
set_option maxRecDepth 20000 in
theorem wdX5_nextEnd_c99 : Cond.constantLong RX5 99 (4000000000) ∈ wsX5_nextEnd := by decide +kernel
set_option maxRecDepth 20000 in
theorem iwX5_nextKey_X5 : ∀ w ∈ u_ws RX5 TX5 21, w ∈ wsX5_nextKey := by decide +kernel
set_option maxRecDepth 20000 in
theorem lkX5_nextKey_32 : Cond.fieldLink RX5 32 (TX5 9).1 (TX5 9).2.1 (TX5 9).2.2.1 ∈ wsX5_nextKey := by decide +kernel
set_option maxRecDepth 20000 in
theorem lkX5_nextKey_26 : Cond.fieldLink RX5 26 (TX5 7).1 (TX5 7).2.1 (TX5 7).2.2.1 ∈ wsX5_nextKey := by decide +kernel
set_option maxRecDepth 20000 in
theorem wdX5_nextKey_c99 : Cond.constantLong RX5 99 (4000000000) ∈ wsX5_nextKey := by decide +kernel
set_option maxRecDepth 20000 in
theorem iwX5_gather_X5 : ∀ w ∈ u_ws RX5 TX5 21, w ∈ wsX5_gather := by decide +kernel
set_option maxRecDepth 20000 in
theorem lkX5_gather_32 : Cond.fieldLink RX5 32 (TX5 9).1 (TX5 9).2.1 (TX5 9).2.2.1 ∈ wsX5_gather := by decide +kernel
set_option maxRecDepth 20000 in
theorem lkX5_gather_26 : Cond.fieldLink RX5 26 (TX5 7).1 (TX5 7).2.1 (TX5 7).2.2.1 ∈ wsX5_gather := by decide +kernel
set_option maxRecDepth 20000 in
theorem lkX5_gather_112 : Cond.fieldLink RX5 112 (TX5 18).1 (TX5 18).2.1 (TX5 18).2.2.1 ∈ wsX5_gather := by decide +kernel
set_option maxRecDepth 20000 in
theorem lkX5_gather_29 : Cond.fieldLink RX5 29 (TX5 8).1 (TX5 8).2.1 (TX5 8).2.2.1 ∈ wsX5_gather := by decide +kernel
set_option maxRecDepth 20000 in
theorem lkX5_gather_115 : Cond.fieldLink RX5 115 (TX5 19).1 (TX5 19).2.1 (TX5 19).2.2.1 ∈ wsX5_gather := by decide +kernel
set_option maxRecDepth 20000 in
theorem lkX5_gather_109 : Cond.fieldLink RX5 109 (TX5 17).1 (TX5 17).2.1 (TX5 17).2.2.1 ∈ wsX5_gather := by decide +kernel
