set_option maxRecDepth 20000 in
theorem wdX4_init_oi1 : Cond.methodLink RX4 1 objectInit ∈ wsX4_init := by decide +kernel
set_option maxRecDepth 20000 in
theorem wdX4_init_oj : Cond.instanceMethod objectInit ∈ wsX4_init := by decide +kernel
set_option maxRecDepth 20000 in
theorem wdX4_init_ok : Cond.code objectInit ⟨#[0xb1]⟩ 1 none ∈ wsX4_init := by decide +kernel
set_option maxRecDepth 20000 in
theorem wdX4_init_cl7 : Cond.classLink RX4 7 RX0 ∈ wsX4_init := by decide +kernel
set_option maxRecDepth 20000 in
theorem wdX4_init_itX0 : Cond.instantiable RX0 4 ∈ wsX4_init := by decide +kernel
set_option maxRecDepth 20000 in
theorem wdX4_init_inX0 : Cond.initialized RX0 ∈ wsX4_init := by decide +kernel
set_option maxRecDepth 20000 in
theorem dfX0 : ∀ j, j < 4 → defaultValue (tyX0 j) = vp_V [.null, .null, .null, .int 0] j := by decide +kernel
set_option maxRecDepth 20000 in
theorem iwX4_init_X0 : ∀ w ∈ u_ws RX0 TX0 4, w ∈ wsX4_init := by decide +kernel
set_option maxRecDepth 20000 in
theorem ddX0_init : yX0_init.cls ≠ "java/lang/invoke/MethodHandle" ∧ yX0_init.cls ≠ "java/lang/invoke/VarHandle" ∧ (parseMethodDescriptor yX0_init.desc).map (fun d => d.parameters.length) = some 0 := by decide +kernel
set_option maxRecDepth 20000 in
theorem nlX4_9 : Cond.methodLinkNest RX4 9 yX0_init "StreamQuery" ∈ nwSQ := by decide +kernel
set_option maxRecDepth 20000 in
theorem wdX4_init_imX0_init : Cond.instanceMethod yX0_init ∈ wsX4_init := by decide +kernel
set_option maxRecDepth 20000 in
theorem iwX4_init_X4 : ∀ w ∈ u_ws RX4 TX4 16, w ∈ wsX4_init := by decide +kernel
set_option maxRecDepth 20000 in
theorem lkX4_init_10 : Cond.fieldLink RX4 10 (TX4 0).1 (TX4 0).2.1 (TX4 0).2.2.1 ∈ wsX4_init := by decide +kernel
set_option maxRecDepth 20000 in
theorem lkX4_init_16 : Cond.fieldLink RX4 16 (TX4 1).1 (TX4 1).2.1 (TX4 1).2.2.1 ∈ wsX4_init := by decide +kernel
set_option maxRecDepth 20000 in
theorem wdX4_init_cl19 : Cond.classLink RX4 19 RX2 ∈ wsX4_init := by decide +kernel
set_option maxRecDepth 20000 in
theorem wdX4_init_itX2 : Cond.instantiable RX2 1 ∈ wsX4_init := by decide +kernel
set_option maxRecDepth 20000 in
theorem wdX4_init_inX2 : Cond.initialized RX2 ∈ wsX4_init := by decide +kernel
set_option maxRecDepth 20000 in
theorem dfX2 : ∀ j, j < 1 → defaultValue (tyX2 j) = vp_V [.null] j := by decide +kernel
set_option maxRecDepth 20000 in
theorem iwX4_init_X2 : ∀ w ∈ u_ws RX2 TX2 1, w ∈ wsX4_init := by decide +kernel
set_option maxRecDepth 20000 in
theorem ddX2_init : yX2_init.cls ≠ "java/lang/invoke/MethodHandle" ∧ yX2_init.cls ≠ "java/lang/invoke/VarHandle" ∧ (parseMethodDescriptor yX2_init.desc).map (fun d => d.parameters.length) = some 0 := by decide +kernel
set_option maxRecDepth 20000 in
theorem nlX4_21 : Cond.methodLinkNest RX4 21 yX2_init "StreamQuery" ∈ nwSQ := by decide +kernel
set_option maxRecDepth 20000 in
theorem wdX4_init_imX2_init : Cond.instanceMethod yX2_init ∈ wsX4_init := by decide +kernel
set_option maxRecDepth 20000 in
theorem lkX4_init_22 : Cond.fieldLink RX4 22 (TX4 2).1 (TX4 2).2.1 (TX4 2).2.2.1 ∈ wsX4_init := by decide +kernel
set_option maxRecDepth 20000 in
theorem wdX4_init_cl26 : Cond.classLink RX4 26 RX3 ∈ wsX4_init := by decide +kernel
set_option maxRecDepth 20000 in
theorem wdX4_init_itX3 : Cond.instantiable RX3 3 ∈ wsX4_init := by decide +kernel
set_option maxRecDepth 20000 in
theorem wdX4_init_inX3 : Cond.initialized RX3 ∈ wsX4_init := by decide +kernel
set_option maxRecDepth 20000 in
theorem dfX3 : ∀ j, j < 3 → defaultValue (tyX3 j) = vp_V [.null, .int 0, .int 0] j := by decide +kernel
set_option maxRecDepth 20000 in
theorem iwX4_init_X3 : ∀ w ∈ u_ws RX3 TX3 3, w ∈ wsX4_init := by decide +kernel
set_option maxRecDepth 20000 in
theorem ddX3_init : yX3_init.cls ≠ "java/lang/invoke/MethodHandle" ∧ yX3_init.cls ≠ "java/lang/invoke/VarHandle" ∧ (parseMethodDescriptor yX3_init.desc).map (fun d => d.parameters.length) = some 0 := by decide +kernel
set_option maxRecDepth 20000 in
theorem nlX4_28 : Cond.methodLinkNest RX4 28 yX3_init "StreamQuery" ∈ nwSQ := by decide +kernel
set_option maxRecDepth 20000 in
theorem wdX4_init_imX3_init : Cond.instanceMethod yX3_init ∈ wsX4_init := by decide +kernel
set_option maxRecDepth 20000 in
theorem lkX4_init_29 : Cond.fieldLink RX4 29 (TX4 3).1 (TX4 3).2.1 (TX4 3).2.2.1 ∈ wsX4_init := by decide +kernel
set_option maxRecDepth 20000 in
theorem lkX4_init_33 : Cond.fieldLink RX4 33 (TX4 4).1 (TX4 4).2.1 (TX4 4).2.2.1 ∈ wsX4_init := by decide +kernel
set_option maxRecDepth 20000 in
theorem lkX4_init_37 : Cond.fieldLink RX4 37 (TX4 5).1 (TX4 5).2.1 (TX4 5).2.2.1 ∈ wsX4_init := by decide +kernel
set_option maxRecDepth 20000 in
theorem lkX4_init_40 : Cond.fieldLink RX4 40 (TX4 6).1 (TX4 6).2.1 (TX4 6).2.2.1 ∈ wsX4_init := by decide +kernel
set_option maxRecDepth 20000 in
theorem lkX4_init_43 : Cond.fieldLink RX4 43 (TX4 7).1 (TX4 7).2.1 (TX4 7).2.2.1 ∈ wsX4_init := by decide +kernel
set_option maxRecDepth 20000 in
theorem lkX4_init_46 : Cond.fieldLink RX4 46 (TX4 8).1 (TX4 8).2.1 (TX4 8).2.2.1 ∈ wsX4_init := by decide +kernel
set_option maxRecDepth 20000 in
theorem lkX4_init_49 : Cond.fieldLink RX4 49 (TX4 9).1 (TX4 9).2.1 (TX4 9).2.2.1 ∈ wsX4_init := by decide +kernel
set_option maxRecDepth 20000 in
theorem iwX4_markA_X4 : ∀ w ∈ u_ws RX4 TX4 16, w ∈ wsX4_markA := by decide +kernel
set_option maxRecDepth 20000 in
theorem lkX4_markA_97 : Cond.fieldLink RX4 97 (TX4 10).1 (TX4 10).2.1 (TX4 10).2.2.1 ∈ wsX4_markA := by decide +kernel
set_option maxRecDepth 20000 in
theorem ddX4_refusalOfMark : yX4_refusalOfMark.cls ≠ "java/lang/invoke/MethodHandle" ∧ yX4_refusalOfMark.cls ≠ "java/lang/invoke/VarHandle" ∧ (parseMethodDescriptor yX4_refusalOfMark.desc).map (fun d => d.parameters.length) = some 2 := by decide +kernel
set_option maxRecDepth 20000 in
theorem lkX4_markA_104 : Cond.fieldLink RX4 104 (TX4 11).1 (TX4 11).2.1 (TX4 11).2.2.1 ∈ wsX4_markA := by decide +kernel
set_option maxRecDepth 20000 in
theorem wdX4_markA_mmin0 : Cond.methodLink RX4 107 Lib.Math.min.name ∈ wsX4_markA := by decide +kernel
set_option maxRecDepth 20000 in
theorem wdX4_markA_mmin1 : Cond.static Lib.Math.min.name ∈ wsX4_markA := by decide +kernel
set_option maxRecDepth 20000 in
theorem wdX4_markA_mmin2 : Cond.initialized "java/lang/Math" ∈ wsX4_markA := by decide +kernel
set_option maxRecDepth 20000 in
theorem wdX4_markA_mmin3 : Cond.code Lib.Math.min.name Lib.Math.min.code 2 (some .int) ∈ wsX4_markA := by decide +kernel
set_option maxRecDepth 20000 in
theorem ddX4_tellWindows : yX4_tellWindows.cls ≠ "java/lang/invoke/MethodHandle" ∧ yX4_tellWindows.cls ≠ "java/lang/invoke/VarHandle" ∧ (parseMethodDescriptor yX4_tellWindows.desc).map (fun d => d.parameters.length) = some 1 := by decide +kernel
set_option maxRecDepth 20000 in
theorem ddX4_dropEvents : yX4_dropEvents.cls ≠ "java/lang/invoke/MethodHandle" ∧ yX4_dropEvents.cls ≠ "java/lang/invoke/VarHandle" ∧ (parseMethodDescriptor yX4_dropEvents.desc).map (fun d => d.parameters.length) = some 0 := by decide +kernel
set_option maxRecDepth 20000 in
theorem iwX4_markB_X4 : ∀ w ∈ u_ws RX4 TX4 16, w ∈ wsX4_markB := by decide +kernel
set_option maxRecDepth 20000 in
theorem lkX4_markB_104 : Cond.fieldLink RX4 104 (TX4 11).1 (TX4 11).2.1 (TX4 11).2.2.1 ∈ wsX4_markB := by decide +kernel
set_option maxRecDepth 20000 in
theorem lkX4_markB_97 : Cond.fieldLink RX4 97 (TX4 10).1 (TX4 10).2.1 (TX4 10).2.2.1 ∈ wsX4_markB := by decide +kernel
set_option maxRecDepth 20000 in
theorem wdX4_markB_mmin0 : Cond.methodLink RX4 107 Lib.Math.min.name ∈ wsX4_markB := by decide +kernel
set_option maxRecDepth 20000 in
theorem wdX4_markB_mmin1 : Cond.static Lib.Math.min.name ∈ wsX4_markB := by decide +kernel
set_option maxRecDepth 20000 in
theorem wdX4_markB_mmin2 : Cond.initialized "java/lang/Math" ∈ wsX4_markB := by decide +kernel
set_option maxRecDepth 20000 in
theorem wdX4_markB_mmin3 : Cond.code Lib.Math.min.name Lib.Math.min.code 2 (some .int) ∈ wsX4_markB := by decide +kernel
