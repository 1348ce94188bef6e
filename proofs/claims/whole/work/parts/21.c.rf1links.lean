set_option maxRecDepth 20000 in
theorem wdX5_isTime_c73 : Cond.constant RX5 73 (-1000000000) ∈ wsX5_isTime := by decide +kernel
set_option maxRecDepth 20000 in
theorem wdX5_isTime_c74 : Cond.constant RX5 74 (1000000000) ∈ wsX5_isTime := by decide +kernel
set_option maxRecDepth 20000 in
theorem ddX5_in : yX5_in.cls ≠ "java/lang/invoke/MethodHandle" ∧ yX5_in.cls ≠ "java/lang/invoke/VarHandle" ∧ (parseMethodDescriptor yX5_in.desc).map (fun d => d.parameters.length) = some 3 := by decide +kernel
set_option maxRecDepth 20000 in
theorem iwX5_mark_X5 : ∀ w ∈ u_ws RX5 TX5 21, w ∈ wsX5_mark := by decide +kernel
set_option maxRecDepth 20000 in
theorem lkX5_mark_35 : Cond.fieldLink RX5 35 (TX5 10).1 (TX5 10).2.1 (TX5 10).2.2.1 ∈ wsX5_mark := by decide +kernel
set_option maxRecDepth 20000 in
theorem iwX5_available_X5 : ∀ w ∈ u_ws RX5 TX5 21, w ∈ wsX5_available := by decide +kernel
set_option maxRecDepth 20000 in
theorem lkX5_available_45 : Cond.fieldLink RX5 45 (TX5 12).1 (TX5 12).2.1 (TX5 12).2.2.1 ∈ wsX5_available := by decide +kernel
set_option maxRecDepth 20000 in
theorem iwX5_isOver_X5 : ∀ w ∈ u_ws RX5 TX5 21, w ∈ wsX5_isOver := by decide +kernel
set_option maxRecDepth 20000 in
theorem lkX5_isOver_67 : Cond.fieldLink RX5 67 (TX5 2).1 (TX5 2).2.1 (TX5 2).2.2.1 ∈ wsX5_isOver := by decide +kernel
set_option maxRecDepth 20000 in
theorem iwX5_isIn_X5 : ∀ w ∈ u_ws RX5 TX5 21, w ∈ wsX5_isIn := by decide +kernel
set_option maxRecDepth 20000 in
theorem lkX5_isIn_22 : Cond.fieldLink RX5 22 (TX5 6).1 (TX5 6).2.1 (TX5 6).2.2.1 ∈ wsX5_isIn := by decide +kernel
set_option maxRecDepth 20000 in
theorem lkX5_isIn_7 : Cond.fieldLink RX5 7 (TX5 0).1 (TX5 0).2.1 (TX5 0).2.2.1 ∈ wsX5_isIn := by decide +kernel
set_option maxRecDepth 20000 in
theorem iwX5_lastEnd_X5 : ∀ w ∈ u_ws RX5 TX5 21, w ∈ wsX5_lastEnd := by decide +kernel
set_option maxRecDepth 20000 in
theorem lkX5_lastEnd_22 : Cond.fieldLink RX5 22 (TX5 6).1 (TX5 6).2.1 (TX5 6).2.2.1 ∈ wsX5_lastEnd := by decide +kernel
set_option maxRecDepth 20000 in
theorem lkX5_lastEnd_13 : Cond.fieldLink RX5 13 (TX5 1).1 (TX5 1).2.1 (TX5 1).2.2.1 ∈ wsX5_lastEnd := by decide +kernel
set_option maxRecDepth 20000 in
theorem lkX5_lastEnd_7 : Cond.fieldLink RX5 7 (TX5 0).1 (TX5 0).2.1 (TX5 0).2.2.1 ∈ wsX5_lastEnd := by decide +kernel
set_option maxRecDepth 20000 in
theorem iwX5_record_X5 : ∀ w ∈ u_ws RX5 TX5 21, w ∈ wsX5_record := by decide +kernel
set_option maxRecDepth 20000 in
theorem lkX5_record_45 : Cond.fieldLink RX5 45 (TX5 12).1 (TX5 12).2.1 (TX5 12).2.2.1 ∈ wsX5_record := by decide +kernel
set_option maxRecDepth 20000 in
theorem lkX5_record_38 : Cond.fieldLink RX5 38 (TX5 11).1 (TX5 11).2.1 (TX5 11).2.2.1 ∈ wsX5_record := by decide +kernel
set_option maxRecDepth 20000 in
theorem iwX5_areNear_X5 : ∀ w ∈ u_ws RX5 TX5 21, w ∈ wsX5_areNear := by decide +kernel
set_option maxRecDepth 20000 in
theorem lkX5_areNear_22 : Cond.fieldLink RX5 22 (TX5 6).1 (TX5 6).2.1 (TX5 6).2.2.1 ∈ wsX5_areNear := by decide +kernel
set_option maxRecDepth 20000 in
theorem lkX5_areNear_26 : Cond.fieldLink RX5 26 (TX5 7).1 (TX5 7).2.1 (TX5 7).2.2.1 ∈ wsX5_areNear := by decide +kernel
set_option maxRecDepth 20000 in
theorem lkX5_areNear_70 : Cond.fieldLink RX5 70 (TX5 3).1 (TX5 3).2.1 (TX5 3).2.2.1 ∈ wsX5_areNear := by decide +kernel
set_option maxRecDepth 20000 in
theorem iwX5_forget_X5 : ∀ w ∈ u_ws RX5 TX5 21, w ∈ wsX5_forget := by decide +kernel
set_option maxRecDepth 20000 in
theorem lkX5_forget_32 : Cond.fieldLink RX5 32 (TX5 9).1 (TX5 9).2.1 (TX5 9).2.2.1 ∈ wsX5_forget := by decide +kernel
set_option maxRecDepth 20000 in
theorem lkX5_forget_35 : Cond.fieldLink RX5 35 (TX5 10).1 (TX5 10).2.1 (TX5 10).2.2.1 ∈ wsX5_forget := by decide +kernel
set_option maxRecDepth 20000 in
theorem wdX5_forget_c44 : Cond.constant RX5 44 (-2000000000) ∈ wsX5_forget := by decide +kernel
set_option maxRecDepth 20000 in
theorem lkX5_forget_45 : Cond.fieldLink RX5 45 (TX5 12).1 (TX5 12).2.1 (TX5 12).2.2.1 ∈ wsX5_forget := by decide +kernel
set_option maxRecDepth 20000 in
theorem lkX5_forget_48 : Cond.fieldLink RX5 48 (TX5 13).1 (TX5 13).2.1 (TX5 13).2.2.1 ∈ wsX5_forget := by decide +kernel
set_option maxRecDepth 20000 in
theorem lkX5_forget_51 : Cond.fieldLink RX5 51 (TX5 14).1 (TX5 14).2.1 (TX5 14).2.2.1 ∈ wsX5_forget := by decide +kernel
set_option maxRecDepth 20000 in
theorem lkX5_forget_54 : Cond.fieldLink RX5 54 (TX5 15).1 (TX5 15).2.1 (TX5 15).2.2.1 ∈ wsX5_forget := by decide +kernel
set_option maxRecDepth 20000 in
theorem lkX5_forget_57 : Cond.fieldLink RX5 57 (TX5 16).1 (TX5 16).2.1 (TX5 16).2.2.1 ∈ wsX5_forget := by decide +kernel
