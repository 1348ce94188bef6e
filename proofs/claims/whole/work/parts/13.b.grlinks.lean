set_option maxRecDepth 20000 in
theorem iwX1_isBefore_X1 : ∀ w ∈ u_ws RX1 TX1 6, w ∈ wsX1_isBefore := by decide +kernel
set_option maxRecDepth 20000 in
theorem lkX1_isBefore_22 : Cond.fieldLink RX1 22 (TX1 0).1 (TX1 0).2.1 (TX1 0).2.2.1 ∈ wsX1_isBefore := by decide +kernel
set_option maxRecDepth 20000 in
theorem lkX1_isBefore_25 : Cond.fieldLink RX1 25 (TX1 1).1 (TX1 1).2.1 (TX1 1).2.2.1 ∈ wsX1_isBefore := by decide +kernel
set_option maxRecDepth 20000 in
theorem iwX1_isOf_X1 : ∀ w ∈ u_ws RX1 TX1 6, w ∈ wsX1_isOf := by decide +kernel
set_option maxRecDepth 20000 in
theorem lkX1_isOf_22 : Cond.fieldLink RX1 22 (TX1 0).1 (TX1 0).2.1 (TX1 0).2.2.1 ∈ wsX1_isOf := by decide +kernel
set_option maxRecDepth 20000 in
theorem lkX1_isOf_25 : Cond.fieldLink RX1 25 (TX1 1).1 (TX1 1).2.1 (TX1 1).2.2.1 ∈ wsX1_isOf := by decide +kernel
set_option maxRecDepth 20000 in
theorem iwX1_gather_X1 : ∀ w ∈ u_ws RX1 TX1 6, w ∈ wsX1_gather := by decide +kernel
set_option maxRecDepth 20000 in
theorem lkX1_gather_7 : Cond.fieldLink RX1 7 (TX1 2).1 (TX1 2).2.1 (TX1 2).2.2.1 ∈ wsX1_gather := by decide +kernel
set_option maxRecDepth 20000 in
theorem lkX1_gather_13 : Cond.fieldLink RX1 13 (TX1 3).1 (TX1 3).2.1 (TX1 3).2.2.1 ∈ wsX1_gather := by decide +kernel
set_option maxRecDepth 20000 in
theorem lkX1_gather_19 : Cond.fieldLink RX1 19 (TX1 4).1 (TX1 4).2.1 (TX1 4).2.2.1 ∈ wsX1_gather := by decide +kernel
set_option maxRecDepth 20000 in
theorem wdX1_gather_mmax0 : Cond.methodLink RX1 32 Lib.Math.max.name ∈ wsX1_gather := by decide +kernel
set_option maxRecDepth 20000 in
theorem wdX1_gather_mmax1 : Cond.static Lib.Math.max.name ∈ wsX1_gather := by decide +kernel
set_option maxRecDepth 20000 in
theorem wdX1_gather_mmax2 : Cond.initialized "java/lang/Math" ∈ wsX1_gather := by decide +kernel
set_option maxRecDepth 20000 in
theorem wdX1_gather_mmax3 : Cond.code Lib.Math.max.name Lib.Math.max.code 2 (some .int) ∈ wsX1_gather := by decide +kernel
set_option maxRecDepth 20000 in
theorem wdX1_init_oi1 : Cond.methodLink RX1 1 objectInit ∈ wsX1_init := by decide +kernel
set_option maxRecDepth 20000 in
theorem wdX1_init_oj : Cond.instanceMethod objectInit ∈ wsX1_init := by decide +kernel
set_option maxRecDepth 20000 in
theorem wdX1_init_ok : Cond.code objectInit ⟨#[0xb1]⟩ 1 none ∈ wsX1_init := by decide +kernel
set_option maxRecDepth 20000 in
theorem iwX1_init_X1 : ∀ w ∈ u_ws RX1 TX1 6, w ∈ wsX1_init := by decide +kernel
set_option maxRecDepth 20000 in
theorem lkX1_init_7 : Cond.fieldLink RX1 7 (TX1 2).1 (TX1 2).2.1 (TX1 2).2.2.1 ∈ wsX1_init := by decide +kernel
set_option maxRecDepth 20000 in
theorem lkX1_init_13 : Cond.fieldLink RX1 13 (TX1 3).1 (TX1 3).2.1 (TX1 3).2.2.1 ∈ wsX1_init := by decide +kernel
set_option maxRecDepth 20000 in
theorem wdX1_init_c18 : Cond.constant RX1 18 (-2147483648) ∈ wsX1_init := by decide +kernel
set_option maxRecDepth 20000 in
theorem lkX1_init_19 : Cond.fieldLink RX1 19 (TX1 4).1 (TX1 4).2.1 (TX1 4).2.2.1 ∈ wsX1_init := by decide +kernel
set_option maxRecDepth 20000 in
theorem lkX1_init_22 : Cond.fieldLink RX1 22 (TX1 0).1 (TX1 0).2.1 (TX1 0).2.2.1 ∈ wsX1_init := by decide +kernel
set_option maxRecDepth 20000 in
theorem lkX1_init_25 : Cond.fieldLink RX1 25 (TX1 1).1 (TX1 1).2.1 (TX1 1).2.2.1 ∈ wsX1_init := by decide +kernel
set_option maxRecDepth 20000 in
theorem lkX1_init_28 : Cond.fieldLink RX1 28 (TX1 5).1 (TX1 5).2.1 (TX1 5).2.2.1 ∈ wsX1_init := by decide +kernel
set_option maxRecDepth 20000 in
theorem iwX2_lastBefore_X1 : ∀ w ∈ u_ws RX1 TX1 6, w ∈ wsX2_lastBefore := by decide +kernel
set_option maxRecDepth 20000 in
theorem lkX2_lastBefore_21 : Cond.fieldLinkNest RX2 21 (TX1 5).1 (TX1 5).2.1 (TX1 5).2.2.1 "StreamQuery" ∈ nwSQ := by decide +kernel
set_option maxRecDepth 20000 in
theorem ddX1_isBefore : yX1_isBefore.cls ≠ "java/lang/invoke/MethodHandle" ∧ yX1_isBefore.cls ≠ "java/lang/invoke/VarHandle" ∧ (parseMethodDescriptor yX1_isBefore.desc).map (fun d => d.parameters.length) = some 2 := by decide +kernel
set_option maxRecDepth 20000 in
theorem iwX2_head_X2 : ∀ w ∈ u_ws RX2 TX2 1, w ∈ wsX2_head := by decide +kernel
set_option maxRecDepth 20000 in
theorem lkX2_head_15 : Cond.fieldLink RX2 15 (TX2 0).1 (TX2 0).2.1 (TX2 0).2.2.1 ∈ wsX2_head := by decide +kernel
set_option maxRecDepth 20000 in
theorem iwX2_clear_X2 : ∀ w ∈ u_ws RX2 TX2 1, w ∈ wsX2_clear := by decide +kernel
set_option maxRecDepth 20000 in
theorem lkX2_clear_15 : Cond.fieldLink RX2 15 (TX2 0).1 (TX2 0).2.1 (TX2 0).2.2.1 ∈ wsX2_clear := by decide +kernel
set_option maxRecDepth 20000 in
theorem iwX2_clear_X1 : ∀ w ∈ u_ws RX1 TX1 6, w ∈ wsX2_clear := by decide +kernel
set_option maxRecDepth 20000 in
theorem lkX2_clear_21 : Cond.fieldLinkNest RX2 21 (TX1 5).1 (TX1 5).2.1 (TX1 5).2.2.1 "StreamQuery" ∈ nwSQ := by decide +kernel
set_option maxRecDepth 20000 in
theorem wdX2_init_oi1 : Cond.methodLink RX2 1 objectInit ∈ wsX2_init := by decide +kernel
set_option maxRecDepth 20000 in
theorem wdX2_init_oj : Cond.instanceMethod objectInit ∈ wsX2_init := by decide +kernel
set_option maxRecDepth 20000 in
theorem wdX2_init_ok : Cond.code objectInit ⟨#[0xb1]⟩ 1 none ∈ wsX2_init := by decide +kernel
set_option maxRecDepth 20000 in
theorem wdX2_init_cl7 : Cond.classLink RX2 7 RX1 ∈ wsX2_init := by decide +kernel
set_option maxRecDepth 20000 in
theorem wdX2_init_itX1 : Cond.instantiable RX1 6 ∈ wsX2_init := by decide +kernel
set_option maxRecDepth 20000 in
theorem wdX2_init_inX1 : Cond.initialized RX1 ∈ wsX2_init := by decide +kernel
set_option maxRecDepth 20000 in
theorem dfX1 : ∀ j, j < 6 → defaultValue (tyX1 j) = vp_V [.int 0, .int 0, .int 0, .int 0, .int 0, .null] j := by decide +kernel
set_option maxRecDepth 20000 in
theorem iwX2_init_X1 : ∀ w ∈ u_ws RX1 TX1 6, w ∈ wsX2_init := by decide +kernel
set_option maxRecDepth 20000 in
theorem wdX2_init_c11 : Cond.constant RX2 11 (-2147483648) ∈ wsX2_init := by decide +kernel
set_option maxRecDepth 20000 in
theorem ddX1_init : yX1_init.cls ≠ "java/lang/invoke/MethodHandle" ∧ yX1_init.cls ≠ "java/lang/invoke/VarHandle" ∧ (parseMethodDescriptor yX1_init.desc).map (fun d => d.parameters.length) = some 3 := by decide +kernel
set_option maxRecDepth 20000 in
theorem wdX2_init_ml12 : Cond.methodLink RX2 12 yX1_init ∈ wsX2_init := by decide +kernel
set_option maxRecDepth 20000 in
theorem wdX2_init_imX1_init : Cond.instanceMethod yX1_init ∈ wsX2_init := by decide +kernel
set_option maxRecDepth 20000 in
theorem iwX2_init_X2 : ∀ w ∈ u_ws RX2 TX2 1, w ∈ wsX2_init := by decide +kernel
set_option maxRecDepth 20000 in
theorem lkX2_init_15 : Cond.fieldLink RX2 15 (TX2 0).1 (TX2 0).2.1 (TX2 0).2.2.1 ∈ wsX2_init := by decide +kernel
set_option maxRecDepth 20000 in
theorem iwX2_find_X2 : ∀ w ∈ u_ws RX2 TX2 1, w ∈ wsX2_find := by decide +kernel
set_option maxRecDepth 20000 in
theorem lkX2_find_15 : Cond.fieldLink RX2 15 (TX2 0).1 (TX2 0).2.1 (TX2 0).2.2.1 ∈ wsX2_find := by decide +kernel
set_option maxRecDepth 20000 in
theorem ddX2_lastBefore : yX2_lastBefore.cls ≠ "java/lang/invoke/MethodHandle" ∧ yX2_lastBefore.cls ≠ "java/lang/invoke/VarHandle" ∧ (parseMethodDescriptor yX2_lastBefore.desc).map (fun d => d.parameters.length) = some 3 := by decide +kernel
set_option maxRecDepth 20000 in
theorem iwX2_find_X1 : ∀ w ∈ u_ws RX1 TX1 6, w ∈ wsX2_find := by decide +kernel
set_option maxRecDepth 20000 in
theorem lkX2_find_21 : Cond.fieldLinkNest RX2 21 (TX1 5).1 (TX1 5).2.1 (TX1 5).2.2.1 "StreamQuery" ∈ nwSQ := by decide +kernel
set_option maxRecDepth 20000 in
theorem ddX1_isOf : yX1_isOf.cls ≠ "java/lang/invoke/MethodHandle" ∧ yX1_isOf.cls ≠ "java/lang/invoke/VarHandle" ∧ (parseMethodDescriptor yX1_isOf.desc).map (fun d => d.parameters.length) = some 2 := by decide +kernel
set_option maxRecDepth 20000 in
theorem iwX2_placeFrom_X1 : ∀ w ∈ u_ws RX1 TX1 6, w ∈ wsX2_placeFrom := by decide +kernel
set_option maxRecDepth 20000 in
theorem lkX2_placeFrom_21 : Cond.fieldLinkNest RX2 21 (TX1 5).1 (TX1 5).2.1 (TX1 5).2.2.1 "StreamQuery" ∈ nwSQ := by decide +kernel
set_option maxRecDepth 20000 in
theorem wdX2_placeFrom_cl7 : Cond.classLink RX2 7 RX1 ∈ wsX2_placeFrom := by decide +kernel
set_option maxRecDepth 20000 in
theorem wdX2_placeFrom_itX1 : Cond.instantiable RX1 6 ∈ wsX2_placeFrom := by decide +kernel
set_option maxRecDepth 20000 in
theorem wdX2_placeFrom_inX1 : Cond.initialized RX1 ∈ wsX2_placeFrom := by decide +kernel
set_option maxRecDepth 20000 in
theorem wdX2_placeFrom_ml12 : Cond.methodLink RX2 12 yX1_init ∈ wsX2_placeFrom := by decide +kernel
set_option maxRecDepth 20000 in
theorem wdX2_placeFrom_imX1_init : Cond.instanceMethod yX1_init ∈ wsX2_placeFrom := by decide +kernel
set_option maxRecDepth 20000 in
theorem iwX2_manyUpTo_X1 : ∀ w ∈ u_ws RX1 TX1 6, w ∈ wsX2_manyUpTo := by decide +kernel
set_option maxRecDepth 20000 in
theorem lkX2_manyUpTo_32 : Cond.fieldLinkNest RX2 32 (TX1 0).1 (TX1 0).2.1 (TX1 0).2.2.1 "StreamQuery" ∈ nwSQ := by decide +kernel
set_option maxRecDepth 20000 in
theorem lkX2_manyUpTo_21 : Cond.fieldLinkNest RX2 21 (TX1 5).1 (TX1 5).2.1 (TX1 5).2.2.1 "StreamQuery" ∈ nwSQ := by decide +kernel
set_option maxRecDepth 20000 in
theorem iwX2_manyUpTo_X2 : ∀ w ∈ u_ws RX2 TX2 1, w ∈ wsX2_manyUpTo := by decide +kernel
set_option maxRecDepth 20000 in
theorem lkX2_manyUpTo_15 : Cond.fieldLink RX2 15 (TX2 0).1 (TX2 0).2.1 (TX2 0).2.2.1 ∈ wsX2_manyUpTo := by decide +kernel
set_option maxRecDepth 20000 in
theorem iwX2_windowsUpTo_X1 : ∀ w ∈ u_ws RX1 TX1 6, w ∈ wsX2_windowsUpTo := by decide +kernel
set_option maxRecDepth 20000 in
theorem lkX2_windowsUpTo_32 : Cond.fieldLinkNest RX2 32 (TX1 0).1 (TX1 0).2.1 (TX1 0).2.2.1 "StreamQuery" ∈ nwSQ := by decide +kernel
set_option maxRecDepth 20000 in
theorem lkX2_windowsUpTo_21 : Cond.fieldLinkNest RX2 21 (TX1 5).1 (TX1 5).2.1 (TX1 5).2.2.1 "StreamQuery" ∈ nwSQ := by decide +kernel
set_option maxRecDepth 20000 in
theorem iwX2_windowsUpTo_X2 : ∀ w ∈ u_ws RX2 TX2 1, w ∈ wsX2_windowsUpTo := by decide +kernel
set_option maxRecDepth 20000 in
theorem lkX2_windowsUpTo_15 : Cond.fieldLink RX2 15 (TX2 0).1 (TX2 0).2.1 (TX2 0).2.2.1 ∈ wsX2_windowsUpTo := by decide +kernel
set_option maxRecDepth 20000 in
theorem iwX2_takeFirst_X2 : ∀ w ∈ u_ws RX2 TX2 1, w ∈ wsX2_takeFirst := by decide +kernel
set_option maxRecDepth 20000 in
theorem lkX2_takeFirst_15 : Cond.fieldLink RX2 15 (TX2 0).1 (TX2 0).2.1 (TX2 0).2.2.1 ∈ wsX2_takeFirst := by decide +kernel
set_option maxRecDepth 20000 in
theorem iwX2_takeFirst_X1 : ∀ w ∈ u_ws RX1 TX1 6, w ∈ wsX2_takeFirst := by decide +kernel
set_option maxRecDepth 20000 in
theorem lkX2_takeFirst_21 : Cond.fieldLinkNest RX2 21 (TX1 5).1 (TX1 5).2.1 (TX1 5).2.2.1 "StreamQuery" ∈ nwSQ := by decide +kernel
