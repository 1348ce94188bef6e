set_option maxRecDepth 20000 in
theorem iwX4_dropEvents_X4 : ∀ w ∈ u_ws RX4 TX4 16, w ∈ wsX4_dropEvents := by decide +kernel
set_option maxRecDepth 20000 in
theorem lkX4_dropEvents_40 : Cond.fieldLink RX4 40 (TX4 6).1 (TX4 6).2.1 (TX4 6).2.2.1 ∈ wsX4_dropEvents := by decide +kernel
set_option maxRecDepth 20000 in
theorem lkX4_dropEvents_10 : Cond.fieldLink RX4 10 (TX4 0).1 (TX4 0).2.1 (TX4 0).2.2.1 ∈ wsX4_dropEvents := by decide +kernel
set_option maxRecDepth 20000 in
theorem lkX4_dropEvents_43 : Cond.fieldLink RX4 43 (TX4 7).1 (TX4 7).2.1 (TX4 7).2.2.1 ∈ wsX4_dropEvents := by decide +kernel
set_option maxRecDepth 20000 in
theorem lkX4_dropEvents_33 : Cond.fieldLink RX4 33 (TX4 4).1 (TX4 4).2.1 (TX4 4).2.2.1 ∈ wsX4_dropEvents := by decide +kernel
set_option maxRecDepth 20000 in
theorem wdX4_dropEvents_mmin0 : Cond.methodLink RX4 107 Lib.Math.min.name ∈ wsX4_dropEvents := by decide +kernel
set_option maxRecDepth 20000 in
theorem wdX4_dropEvents_mmin1 : Cond.static Lib.Math.min.name ∈ wsX4_dropEvents := by decide +kernel
set_option maxRecDepth 20000 in
theorem wdX4_dropEvents_mmin2 : Cond.initialized "java/lang/Math" ∈ wsX4_dropEvents := by decide +kernel
set_option maxRecDepth 20000 in
theorem wdX4_dropEvents_mmin3 : Cond.code Lib.Math.min.name Lib.Math.min.code 2 (some .int) ∈ wsX4_dropEvents := by decide +kernel
set_option maxRecDepth 20000 in
theorem ddX0_dropBelow : yX0_dropBelow.cls ≠ "java/lang/invoke/MethodHandle" ∧ yX0_dropBelow.cls ≠ "java/lang/invoke/VarHandle" ∧ (parseMethodDescriptor yX0_dropBelow.desc).map (fun d => d.parameters.length) = some 1 := by decide +kernel
set_option maxRecDepth 20000 in
theorem lkX4_dropEvents_16 : Cond.fieldLink RX4 16 (TX4 1).1 (TX4 1).2.1 (TX4 1).2.2.1 ∈ wsX4_dropEvents := by decide +kernel
set_option maxRecDepth 20000 in
theorem iwX4_tellWindows_X4 : ∀ w ∈ u_ws RX4 TX4 16, w ∈ wsX4_tellWindows := by decide +kernel
set_option maxRecDepth 20000 in
theorem lkX4_tellWindows_40 : Cond.fieldLink RX4 40 (TX4 6).1 (TX4 6).2.1 (TX4 6).2.2.1 ∈ wsX4_tellWindows := by decide +kernel
set_option maxRecDepth 20000 in
theorem lkX4_tellWindows_22 : Cond.fieldLink RX4 22 (TX4 2).1 (TX4 2).2.1 (TX4 2).2.2.1 ∈ wsX4_tellWindows := by decide +kernel
set_option maxRecDepth 20000 in
theorem ddX2_manyUpTo : yX2_manyUpTo.cls ≠ "java/lang/invoke/MethodHandle" ∧ yX2_manyUpTo.cls ≠ "java/lang/invoke/VarHandle" ∧ (parseMethodDescriptor yX2_manyUpTo.desc).map (fun d => d.parameters.length) = some 1 := by decide +kernel
set_option maxRecDepth 20000 in
theorem lkX4_tellWindows_29 : Cond.fieldLink RX4 29 (TX4 3).1 (TX4 3).2.1 (TX4 3).2.2.1 ∈ wsX4_tellWindows := by decide +kernel
set_option maxRecDepth 20000 in
theorem lkX4_tellWindows_49 : Cond.fieldLink RX4 49 (TX4 9).1 (TX4 9).2.1 (TX4 9).2.2.1 ∈ wsX4_tellWindows := by decide +kernel
set_option maxRecDepth 20000 in
theorem lkX4_tellWindows_156 : Cond.fieldLink RX4 156 (TX4 14).1 (TX4 14).2.1 (TX4 14).2.2.1 ∈ wsX4_tellWindows := by decide +kernel
set_option maxRecDepth 20000 in
theorem ddX2_takeFirst : yX2_takeFirst.cls ≠ "java/lang/invoke/MethodHandle" ∧ yX2_takeFirst.cls ≠ "java/lang/invoke/VarHandle" ∧ (parseMethodDescriptor yX2_takeFirst.desc).map (fun d => d.parameters.length) = some 0 := by decide +kernel
set_option maxRecDepth 20000 in
theorem iwX4_tellWindows_X1 : ∀ w ∈ u_ws RX1 TX1 6, w ∈ wsX4_tellWindows := by decide +kernel
set_option maxRecDepth 20000 in
theorem lkX4_tellWindows_203 : Cond.fieldLinkNest RX4 203 (TX1 0).1 (TX1 0).2.1 (TX1 0).2.2.1 "StreamQuery" ∈ nwSQ := by decide +kernel
set_option maxRecDepth 20000 in
theorem lkX4_tellWindows_206 : Cond.fieldLinkNest RX4 206 (TX1 1).1 (TX1 1).2.1 (TX1 1).2.2.1 "StreamQuery" ∈ nwSQ := by decide +kernel
set_option maxRecDepth 20000 in
theorem lkX4_tellWindows_130 : Cond.fieldLinkNest RX4 130 (TX1 2).1 (TX1 2).2.1 (TX1 2).2.2.1 "StreamQuery" ∈ nwSQ := by decide +kernel
set_option maxRecDepth 20000 in
theorem lkX4_tellWindows_135 : Cond.fieldLinkNest RX4 135 (TX1 3).1 (TX1 3).2.1 (TX1 3).2.2.1 "StreamQuery" ∈ nwSQ := by decide +kernel
set_option maxRecDepth 20000 in
theorem lkX4_tellWindows_138 : Cond.fieldLinkNest RX4 138 (TX1 4).1 (TX1 4).2.1 (TX1 4).2.2.1 "StreamQuery" ∈ nwSQ := by decide +kernel
set_option maxRecDepth 20000 in
theorem ddX3_add : yX3_add.cls ≠ "java/lang/invoke/MethodHandle" ∧ yX3_add.cls ≠ "java/lang/invoke/VarHandle" ∧ (parseMethodDescriptor yX3_add.desc).map (fun d => d.parameters.length) = some 6 := by decide +kernel
