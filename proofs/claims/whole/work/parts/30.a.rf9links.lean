set_option maxRecDepth 20000 in
theorem iwX5_look_X5 : ∀ w ∈ u_ws RX5 TX5 21, w ∈ wsX5_look := by decide +kernel
set_option maxRecDepth 20000 in
theorem lkX5_look_7 : Cond.fieldLink RX5 7 (TX5 0).1 (TX5 0).2.1 (TX5 0).2.2.1 ∈ wsX5_look := by decide +kernel
set_option maxRecDepth 20000 in
theorem lkX5_look_13 : Cond.fieldLink RX5 13 (TX5 1).1 (TX5 1).2.1 (TX5 1).2.2.1 ∈ wsX5_look := by decide +kernel
set_option maxRecDepth 20000 in
theorem lkX5_look_115 : Cond.fieldLink RX5 115 (TX5 19).1 (TX5 19).2.1 (TX5 19).2.2.1 ∈ wsX5_look := by decide +kernel
set_option maxRecDepth 20000 in
theorem lkX5_look_112 : Cond.fieldLink RX5 112 (TX5 18).1 (TX5 18).2.1 (TX5 18).2.2.1 ∈ wsX5_look := by decide +kernel
set_option maxRecDepth 20000 in
theorem lkX5_look_109 : Cond.fieldLink RX5 109 (TX5 17).1 (TX5 17).2.1 (TX5 17).2.2.1 ∈ wsX5_look := by decide +kernel
set_option maxRecDepth 20000 in
theorem wdX5_windows_c99 : Cond.constantLong RX5 99 (4000000000) ∈ wsX5_windows := by decide +kernel
set_option maxRecDepth 20000 in
theorem wdX5_windows_c121 : Cond.constantLong RX5 121 (-4000000000) ∈ wsX5_windows := by decide +kernel
set_option maxRecDepth 20000 in
theorem iwX5_count_X5 : ∀ w ∈ u_ws RX5 TX5 21, w ∈ wsX5_count := by decide +kernel
set_option maxRecDepth 20000 in
theorem lkX5_count_32 : Cond.fieldLink RX5 32 (TX5 9).1 (TX5 9).2.1 (TX5 9).2.2.1 ∈ wsX5_count := by decide +kernel
set_option maxRecDepth 20000 in
theorem lkX5_count_48 : Cond.fieldLink RX5 48 (TX5 13).1 (TX5 13).2.1 (TX5 13).2.2.1 ∈ wsX5_count := by decide +kernel
set_option maxRecDepth 20000 in
theorem lkX5_count_35 : Cond.fieldLink RX5 35 (TX5 10).1 (TX5 10).2.1 (TX5 10).2.2.1 ∈ wsX5_count := by decide +kernel
set_option maxRecDepth 20000 in
theorem ddX5_windows : yX5_windows.cls ≠ "java/lang/invoke/MethodHandle" ∧ yX5_windows.cls ≠ "java/lang/invoke/VarHandle" ∧ (parseMethodDescriptor yX5_windows.desc).map (fun d => d.parameters.length) = some 0 := by decide +kernel
set_option maxRecDepth 20000 in
theorem lkX5_count_51 : Cond.fieldLink RX5 51 (TX5 14).1 (TX5 14).2.1 (TX5 14).2.2.1 ∈ wsX5_count := by decide +kernel
set_option maxRecDepth 20000 in
theorem lkX5_count_54 : Cond.fieldLink RX5 54 (TX5 15).1 (TX5 15).2.1 (TX5 15).2.2.1 ∈ wsX5_count := by decide +kernel
set_option maxRecDepth 20000 in
theorem lkX5_count_57 : Cond.fieldLink RX5 57 (TX5 16).1 (TX5 16).2.1 (TX5 16).2.2.1 ∈ wsX5_count := by decide +kernel
