set_option maxRecDepth 20000 in
theorem wdX4_isTime_c168 : Cond.constant RX4 168 (-1000000000) ∈ wsX4_isTime := by decide +kernel
set_option maxRecDepth 20000 in
theorem wdX4_isTime_c169 : Cond.constant RX4 169 (1000000000) ∈ wsX4_isTime := by decide +kernel
set_option maxRecDepth 20000 in
theorem iwX4_mark_X4 : ∀ w ∈ u_ws RX4 TX4 16, w ∈ wsX4_mark := by decide +kernel
set_option maxRecDepth 20000 in
theorem lkX4_mark_97 : Cond.fieldLink RX4 97 (TX4 10).1 (TX4 10).2.1 (TX4 10).2.2.1 ∈ wsX4_mark := by decide +kernel
set_option maxRecDepth 20000 in
theorem lkX4_mark_104 : Cond.fieldLink RX4 104 (TX4 11).1 (TX4 11).2.1 (TX4 11).2.2.1 ∈ wsX4_mark := by decide +kernel
set_option maxRecDepth 20000 in
theorem wdX4_mark_mmin0 : Cond.methodLink RX4 107 Lib.Math.min.name ∈ wsX4_mark := by decide +kernel
set_option maxRecDepth 20000 in
theorem wdX4_mark_mmin1 : Cond.static Lib.Math.min.name ∈ wsX4_mark := by decide +kernel
set_option maxRecDepth 20000 in
theorem wdX4_mark_mmin2 : Cond.initialized "java/lang/Math" ∈ wsX4_mark := by decide +kernel
set_option maxRecDepth 20000 in
theorem wdX4_mark_mmin3 : Cond.code Lib.Math.min.name Lib.Math.min.code 2 (some .int) ∈ wsX4_mark := by decide +kernel
set_option maxRecDepth 20000 in
theorem wdX4_areWindows_c59 : Cond.constant RX4 59 (1000000) ∈ wsX4_areWindows := by decide +kernel
set_option maxRecDepth 20000 in
theorem iwX4_beginningAbove_X4 : ∀ w ∈ u_ws RX4 TX4 16, w ∈ wsX4_beginningAbove := by decide +kernel
set_option maxRecDepth 20000 in
theorem lkX4_beginningAbove_37 : Cond.fieldLink RX4 37 (TX4 5).1 (TX4 5).2.1 (TX4 5).2.2.1 ∈ wsX4_beginningAbove := by decide +kernel
set_option maxRecDepth 20000 in
theorem ddJ9_floorDiv_7cf53 : yJ9_floorDiv_7cf53.cls ≠ "java/lang/invoke/MethodHandle" ∧ yJ9_floorDiv_7cf53.cls ≠ "java/lang/invoke/VarHandle" ∧ (parseMethodDescriptor yJ9_floorDiv_7cf53.desc).map (fun d => d.parameters.length) = some 2 := by decide +kernel
set_option maxRecDepth 20000 in
theorem iwX4_countTaken_X4 : ∀ w ∈ u_ws RX4 TX4 16, w ∈ wsX4_countTaken := by decide +kernel
set_option maxRecDepth 20000 in
theorem lkX4_countTaken_153 : Cond.fieldLink RX4 153 (TX4 13).1 (TX4 13).2.1 (TX4 13).2.2.1 ∈ wsX4_countTaken := by decide +kernel
set_option maxRecDepth 20000 in
theorem lkX4_countTaken_159 : Cond.fieldLink RX4 159 (TX4 15).1 (TX4 15).2.1 (TX4 15).2.2.1 ∈ wsX4_countTaken := by decide +kernel
set_option maxRecDepth 20000 in
theorem ddX4_isTime : yX4_isTime.cls ≠ "java/lang/invoke/MethodHandle" ∧ yX4_isTime.cls ≠ "java/lang/invoke/VarHandle" ∧ (parseMethodDescriptor yX4_isTime.desc).map (fun d => d.parameters.length) = some 1 := by decide +kernel
set_option maxRecDepth 20000 in
theorem iwX4_available_X4 : ∀ w ∈ u_ws RX4 TX4 16, w ∈ wsX4_available := by decide +kernel
set_option maxRecDepth 20000 in
theorem lkX4_available_29 : Cond.fieldLink RX4 29 (TX4 3).1 (TX4 3).2.1 (TX4 3).2.2.1 ∈ wsX4_available := by decide +kernel
set_option maxRecDepth 20000 in
theorem ddX3_size : yX3_size.cls ≠ "java/lang/invoke/MethodHandle" ∧ yX3_size.cls ≠ "java/lang/invoke/VarHandle" ∧ (parseMethodDescriptor yX3_size.desc).map (fun d => d.parameters.length) = some 0 := by decide +kernel
set_option maxRecDepth 20000 in
theorem iwX4_kind_X4 : ∀ w ∈ u_ws RX4 TX4 16, w ∈ wsX4_kind := by decide +kernel
set_option maxRecDepth 20000 in
theorem lkX4_kind_29 : Cond.fieldLink RX4 29 (TX4 3).1 (TX4 3).2.1 (TX4 3).2.2.1 ∈ wsX4_kind := by decide +kernel
set_option maxRecDepth 20000 in
theorem ddX3_cell : yX3_cell.cls ≠ "java/lang/invoke/MethodHandle" ∧ yX3_cell.cls ≠ "java/lang/invoke/VarHandle" ∧ (parseMethodDescriptor yX3_cell.desc).map (fun d => d.parameters.length) = some 2 := by decide +kernel
set_option maxRecDepth 20000 in
theorem iwX4_field_X4 : ∀ w ∈ u_ws RX4 TX4 16, w ∈ wsX4_field := by decide +kernel
set_option maxRecDepth 20000 in
theorem lkX4_field_29 : Cond.fieldLink RX4 29 (TX4 3).1 (TX4 3).2.1 (TX4 3).2.2.1 ∈ wsX4_field := by decide +kernel
set_option maxRecDepth 20000 in
theorem iwX4_pop_X4 : ∀ w ∈ u_ws RX4 TX4 16, w ∈ wsX4_pop := by decide +kernel
set_option maxRecDepth 20000 in
theorem lkX4_pop_29 : Cond.fieldLink RX4 29 (TX4 3).1 (TX4 3).2.1 (TX4 3).2.2.1 ∈ wsX4_pop := by decide +kernel
set_option maxRecDepth 20000 in
theorem ddX3_dropFirst : yX3_dropFirst.cls ≠ "java/lang/invoke/MethodHandle" ∧ yX3_dropFirst.cls ≠ "java/lang/invoke/VarHandle" ∧ (parseMethodDescriptor yX3_dropFirst.desc).map (fun d => d.parameters.length) = some 0 := by decide +kernel
set_option maxRecDepth 20000 in
theorem iwX4_look_X4 : ∀ w ∈ u_ws RX4 TX4 16, w ∈ wsX4_look := by decide +kernel
set_option maxRecDepth 20000 in
theorem lkX4_look_22 : Cond.fieldLink RX4 22 (TX4 2).1 (TX4 2).2.1 (TX4 2).2.2.1 ∈ wsX4_look := by decide +kernel
set_option maxRecDepth 20000 in
theorem ddX2_find : yX2_find.cls ≠ "java/lang/invoke/MethodHandle" ∧ yX2_find.cls ≠ "java/lang/invoke/VarHandle" ∧ (parseMethodDescriptor yX2_find.desc).map (fun d => d.parameters.length) = some 2 := by decide +kernel
set_option maxRecDepth 20000 in
theorem iwX4_look_X1 : ∀ w ∈ u_ws RX1 TX1 6, w ∈ wsX4_look := by decide +kernel
set_option maxRecDepth 20000 in
theorem lkX4_look_130 : Cond.fieldLinkNest RX4 130 (TX1 2).1 (TX1 2).2.1 (TX1 2).2.2.1 "StreamQuery" ∈ nwSQ := by decide +kernel
set_option maxRecDepth 20000 in
theorem lkX4_look_135 : Cond.fieldLinkNest RX4 135 (TX1 3).1 (TX1 3).2.1 (TX1 3).2.2.1 "StreamQuery" ∈ nwSQ := by decide +kernel
set_option maxRecDepth 20000 in
theorem lkX4_look_138 : Cond.fieldLinkNest RX4 138 (TX1 4).1 (TX1 4).2.1 (TX1 4).2.2.1 "StreamQuery" ∈ nwSQ := by decide +kernel
set_option maxRecDepth 20000 in
theorem iwX4_event_X4 : ∀ w ∈ u_ws RX4 TX4 16, w ∈ wsX4_event := by decide +kernel
set_option maxRecDepth 20000 in
theorem lkX4_event_10 : Cond.fieldLink RX4 10 (TX4 0).1 (TX4 0).2.1 (TX4 0).2.2.1 ∈ wsX4_event := by decide +kernel
set_option maxRecDepth 20000 in
theorem ddX0_time : yX0_time.cls ≠ "java/lang/invoke/MethodHandle" ∧ yX0_time.cls ≠ "java/lang/invoke/VarHandle" ∧ (parseMethodDescriptor yX0_time.desc).map (fun d => d.parameters.length) = some 1 := by decide +kernel
set_option maxRecDepth 20000 in
theorem ddX0_key : yX0_key.cls ≠ "java/lang/invoke/MethodHandle" ∧ yX0_key.cls ≠ "java/lang/invoke/VarHandle" ∧ (parseMethodDescriptor yX0_key.desc).map (fun d => d.parameters.length) = some 1 := by decide +kernel
set_option maxRecDepth 20000 in
theorem ddX0_value : yX0_value.cls ≠ "java/lang/invoke/MethodHandle" ∧ yX0_value.cls ≠ "java/lang/invoke/VarHandle" ∧ (parseMethodDescriptor yX0_value.desc).map (fun d => d.parameters.length) = some 1 := by decide +kernel
set_option maxRecDepth 20000 in
theorem lkX4_event_16 : Cond.fieldLink RX4 16 (TX4 1).1 (TX4 1).2.1 (TX4 1).2.2.1 ∈ wsX4_event := by decide +kernel
set_option maxRecDepth 20000 in
theorem iwX4_count_X4 : ∀ w ∈ u_ws RX4 TX4 16, w ∈ wsX4_count := by decide +kernel
set_option maxRecDepth 20000 in
theorem lkX4_count_10 : Cond.fieldLink RX4 10 (TX4 0).1 (TX4 0).2.1 (TX4 0).2.2.1 ∈ wsX4_count := by decide +kernel
set_option maxRecDepth 20000 in
theorem ddX0_size : yX0_size.cls ≠ "java/lang/invoke/MethodHandle" ∧ yX0_size.cls ≠ "java/lang/invoke/VarHandle" ∧ (parseMethodDescriptor yX0_size.desc).map (fun d => d.parameters.length) = some 0 := by decide +kernel
set_option maxRecDepth 20000 in
theorem lkX4_count_16 : Cond.fieldLink RX4 16 (TX4 1).1 (TX4 1).2.1 (TX4 1).2.2.1 ∈ wsX4_count := by decide +kernel
set_option maxRecDepth 20000 in
theorem lkX4_count_144 : Cond.fieldLink RX4 144 (TX4 12).1 (TX4 12).2.1 (TX4 12).2.2.1 ∈ wsX4_count := by decide +kernel
set_option maxRecDepth 20000 in
theorem lkX4_count_97 : Cond.fieldLink RX4 97 (TX4 10).1 (TX4 10).2.1 (TX4 10).2.2.1 ∈ wsX4_count := by decide +kernel
set_option maxRecDepth 20000 in
theorem lkX4_count_104 : Cond.fieldLink RX4 104 (TX4 11).1 (TX4 11).2.1 (TX4 11).2.2.1 ∈ wsX4_count := by decide +kernel
set_option maxRecDepth 20000 in
theorem lkX4_count_22 : Cond.fieldLink RX4 22 (TX4 2).1 (TX4 2).2.1 (TX4 2).2.2.1 ∈ wsX4_count := by decide +kernel
set_option maxRecDepth 20000 in
theorem wdX4_count_c149 : Cond.constant RX4 149 (2147483647) ∈ wsX4_count := by decide +kernel
set_option maxRecDepth 20000 in
theorem ddX2_windowsUpTo : yX2_windowsUpTo.cls ≠ "java/lang/invoke/MethodHandle" ∧ yX2_windowsUpTo.cls ≠ "java/lang/invoke/VarHandle" ∧ (parseMethodDescriptor yX2_windowsUpTo.desc).map (fun d => d.parameters.length) = some 1 := by decide +kernel
set_option maxRecDepth 20000 in
theorem lkX4_count_153 : Cond.fieldLink RX4 153 (TX4 13).1 (TX4 13).2.1 (TX4 13).2.2.1 ∈ wsX4_count := by decide +kernel
set_option maxRecDepth 20000 in
theorem lkX4_count_156 : Cond.fieldLink RX4 156 (TX4 14).1 (TX4 14).2.1 (TX4 14).2.2.1 ∈ wsX4_count := by decide +kernel
set_option maxRecDepth 20000 in
theorem lkX4_count_159 : Cond.fieldLink RX4 159 (TX4 15).1 (TX4 15).2.1 (TX4 15).2.2.1 ∈ wsX4_count := by decide +kernel
