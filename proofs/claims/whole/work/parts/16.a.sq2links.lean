set_option maxRecDepth 20000 in
theorem iwX4_startAgain_X4 : ∀ w ∈ u_ws RX4 TX4 16, w ∈ wsX4_startAgain := by decide +kernel
set_option maxRecDepth 20000 in
theorem lkX4_startAgain_10 : Cond.fieldLink RX4 10 (TX4 0).1 (TX4 0).2.1 (TX4 0).2.2.1 ∈ wsX4_startAgain := by decide +kernel
set_option maxRecDepth 20000 in
theorem ddX0_clear : yX0_clear.cls ≠ "java/lang/invoke/MethodHandle" ∧ yX0_clear.cls ≠ "java/lang/invoke/VarHandle" ∧ (parseMethodDescriptor yX0_clear.desc).map (fun d => d.parameters.length) = some 0 := by decide +kernel
set_option maxRecDepth 20000 in
theorem lkX4_startAgain_16 : Cond.fieldLink RX4 16 (TX4 1).1 (TX4 1).2.1 (TX4 1).2.2.1 ∈ wsX4_startAgain := by decide +kernel
set_option maxRecDepth 20000 in
theorem lkX4_startAgain_22 : Cond.fieldLink RX4 22 (TX4 2).1 (TX4 2).2.1 (TX4 2).2.2.1 ∈ wsX4_startAgain := by decide +kernel
set_option maxRecDepth 20000 in
theorem ddX2_clear : yX2_clear.cls ≠ "java/lang/invoke/MethodHandle" ∧ yX2_clear.cls ≠ "java/lang/invoke/VarHandle" ∧ (parseMethodDescriptor yX2_clear.desc).map (fun d => d.parameters.length) = some 0 := by decide +kernel
set_option maxRecDepth 20000 in
theorem lkX4_startAgain_29 : Cond.fieldLink RX4 29 (TX4 3).1 (TX4 3).2.1 (TX4 3).2.2.1 ∈ wsX4_startAgain := by decide +kernel
set_option maxRecDepth 20000 in
theorem ddX3_clear : yX3_clear.cls ≠ "java/lang/invoke/MethodHandle" ∧ yX3_clear.cls ≠ "java/lang/invoke/VarHandle" ∧ (parseMethodDescriptor yX3_clear.desc).map (fun d => d.parameters.length) = some 0 := by decide +kernel
set_option maxRecDepth 20000 in
theorem wdX4_startAgain_c167 : Cond.constant RX4 167 (-2000000000) ∈ wsX4_startAgain := by decide +kernel
set_option maxRecDepth 20000 in
theorem lkX4_startAgain_97 : Cond.fieldLink RX4 97 (TX4 10).1 (TX4 10).2.1 (TX4 10).2.2.1 ∈ wsX4_startAgain := by decide +kernel
set_option maxRecDepth 20000 in
theorem lkX4_startAgain_104 : Cond.fieldLink RX4 104 (TX4 11).1 (TX4 11).2.1 (TX4 11).2.2.1 ∈ wsX4_startAgain := by decide +kernel
set_option maxRecDepth 20000 in
theorem lkX4_startAgain_144 : Cond.fieldLink RX4 144 (TX4 12).1 (TX4 12).2.1 (TX4 12).2.2.1 ∈ wsX4_startAgain := by decide +kernel
set_option maxRecDepth 20000 in
theorem lkX4_startAgain_153 : Cond.fieldLink RX4 153 (TX4 13).1 (TX4 13).2.1 (TX4 13).2.2.1 ∈ wsX4_startAgain := by decide +kernel
set_option maxRecDepth 20000 in
theorem lkX4_startAgain_156 : Cond.fieldLink RX4 156 (TX4 14).1 (TX4 14).2.1 (TX4 14).2.2.1 ∈ wsX4_startAgain := by decide +kernel
set_option maxRecDepth 20000 in
theorem lkX4_startAgain_159 : Cond.fieldLink RX4 159 (TX4 15).1 (TX4 15).2.1 (TX4 15).2.2.1 ∈ wsX4_startAgain := by decide +kernel
set_option maxRecDepth 20000 in
theorem ddX4_areWindows : yX4_areWindows.cls ≠ "java/lang/invoke/MethodHandle" ∧ yX4_areWindows.cls ≠ "java/lang/invoke/VarHandle" ∧ (parseMethodDescriptor yX4_areWindows.desc).map (fun d => d.parameters.length) = some 2 := by decide +kernel
set_option maxRecDepth 20000 in
theorem wdX4_set_c59 : Cond.constant RX4 59 (1000000) ∈ wsX4_set := by decide +kernel
set_option maxRecDepth 20000 in
theorem iwX4_set_X4 : ∀ w ∈ u_ws RX4 TX4 16, w ∈ wsX4_set := by decide +kernel
set_option maxRecDepth 20000 in
theorem lkX4_set_33 : Cond.fieldLink RX4 33 (TX4 4).1 (TX4 4).2.1 (TX4 4).2.2.1 ∈ wsX4_set := by decide +kernel
set_option maxRecDepth 20000 in
theorem lkX4_set_37 : Cond.fieldLink RX4 37 (TX4 5).1 (TX4 5).2.1 (TX4 5).2.2.1 ∈ wsX4_set := by decide +kernel
set_option maxRecDepth 20000 in
theorem lkX4_set_40 : Cond.fieldLink RX4 40 (TX4 6).1 (TX4 6).2.1 (TX4 6).2.2.1 ∈ wsX4_set := by decide +kernel
set_option maxRecDepth 20000 in
theorem lkX4_set_43 : Cond.fieldLink RX4 43 (TX4 7).1 (TX4 7).2.1 (TX4 7).2.2.1 ∈ wsX4_set := by decide +kernel
set_option maxRecDepth 20000 in
theorem lkX4_set_46 : Cond.fieldLink RX4 46 (TX4 8).1 (TX4 8).2.1 (TX4 8).2.2.1 ∈ wsX4_set := by decide +kernel
set_option maxRecDepth 20000 in
theorem lkX4_set_49 : Cond.fieldLink RX4 49 (TX4 9).1 (TX4 9).2.1 (TX4 9).2.2.1 ∈ wsX4_set := by decide +kernel
set_option maxRecDepth 20000 in
theorem ddX4_startAgain : yX4_startAgain.cls ≠ "java/lang/invoke/MethodHandle" ∧ yX4_startAgain.cls ≠ "java/lang/invoke/VarHandle" ∧ (parseMethodDescriptor yX4_startAgain.desc).map (fun d => d.parameters.length) = some 0 := by decide +kernel
set_option maxRecDepth 20000 in
theorem ddX4_mark : yX4_mark.cls ≠ "java/lang/invoke/MethodHandle" ∧ yX4_mark.cls ≠ "java/lang/invoke/VarHandle" ∧ (parseMethodDescriptor yX4_mark.desc).map (fun d => d.parameters.length) = some 0 := by decide +kernel
set_option maxRecDepth 20000 in
theorem iwX4_admit_X4 : ∀ w ∈ u_ws RX4 TX4 16, w ∈ wsX4_admit := by decide +kernel
set_option maxRecDepth 20000 in
theorem lkX4_admit_40 : Cond.fieldLink RX4 40 (TX4 6).1 (TX4 6).2.1 (TX4 6).2.2.1 ∈ wsX4_admit := by decide +kernel
set_option maxRecDepth 20000 in
theorem lkX4_admit_144 : Cond.fieldLink RX4 144 (TX4 12).1 (TX4 12).2.1 (TX4 12).2.2.1 ∈ wsX4_admit := by decide +kernel
set_option maxRecDepth 20000 in
theorem lkX4_admit_10 : Cond.fieldLink RX4 10 (TX4 0).1 (TX4 0).2.1 (TX4 0).2.2.1 ∈ wsX4_admit := by decide +kernel
set_option maxRecDepth 20000 in
theorem lkX4_admit_16 : Cond.fieldLink RX4 16 (TX4 1).1 (TX4 1).2.1 (TX4 1).2.2.1 ∈ wsX4_admit := by decide +kernel
set_option maxRecDepth 20000 in
theorem lkX4_admit_46 : Cond.fieldLink RX4 46 (TX4 8).1 (TX4 8).2.1 (TX4 8).2.2.1 ∈ wsX4_admit := by decide +kernel
set_option maxRecDepth 20000 in
theorem lkX4_admit_43 : Cond.fieldLink RX4 43 (TX4 7).1 (TX4 7).2.1 (TX4 7).2.2.1 ∈ wsX4_admit := by decide +kernel
set_option maxRecDepth 20000 in
theorem ddX0_manyNear : yX0_manyNear.cls ≠ "java/lang/invoke/MethodHandle" ∧ yX0_manyNear.cls ≠ "java/lang/invoke/VarHandle" ∧ (parseMethodDescriptor yX0_manyNear.desc).map (fun d => d.parameters.length) = some 3 := by decide +kernel
set_option maxRecDepth 20000 in
theorem lkX4_admit_29 : Cond.fieldLink RX4 29 (TX4 3).1 (TX4 3).2.1 (TX4 3).2.2.1 ∈ wsX4_admit := by decide +kernel
set_option maxRecDepth 20000 in
theorem lkX4_admit_49 : Cond.fieldLink RX4 49 (TX4 9).1 (TX4 9).2.1 (TX4 9).2.2.1 ∈ wsX4_admit := by decide +kernel
