set_option maxRecDepth 20000 in
theorem iwX3_size_X3 : ∀ w ∈ u_ws RX3 TX3 3, w ∈ wsX3_size := by decide +kernel
set_option maxRecDepth 20000 in
theorem lkX3_size_19 : Cond.fieldLink RX3 19 (TX3 2).1 (TX3 2).2.1 (TX3 2).2.2.1 ∈ wsX3_size := by decide +kernel
set_option maxRecDepth 20000 in
theorem iwX3_clear_X3 : ∀ w ∈ u_ws RX3 TX3 3, w ∈ wsX3_clear := by decide +kernel
set_option maxRecDepth 20000 in
theorem lkX3_clear_15 : Cond.fieldLink RX3 15 (TX3 1).1 (TX3 1).2.1 (TX3 1).2.2.1 ∈ wsX3_clear := by decide +kernel
set_option maxRecDepth 20000 in
theorem lkX3_clear_19 : Cond.fieldLink RX3 19 (TX3 2).1 (TX3 2).2.1 (TX3 2).2.2.1 ∈ wsX3_clear := by decide +kernel
set_option maxRecDepth 20000 in
theorem wdX3_init_oi3 : Cond.methodLink RX3 3 objectInit ∈ wsX3_init := by decide +kernel
set_option maxRecDepth 20000 in
theorem wdX3_init_oj : Cond.instanceMethod objectInit ∈ wsX3_init := by decide +kernel
set_option maxRecDepth 20000 in
theorem wdX3_init_ok : Cond.code objectInit ⟨#[0xb1]⟩ 1 none ∈ wsX3_init := by decide +kernel
set_option maxRecDepth 20000 in
theorem wdX3_init_ai : Cond.arrayClass .int ∈ wsX3_init := by decide +kernel
set_option maxRecDepth 20000 in
theorem iwX3_init_X3 : ∀ w ∈ u_ws RX3 TX3 3, w ∈ wsX3_init := by decide +kernel
set_option maxRecDepth 20000 in
theorem lkX3_init_11 : Cond.fieldLink RX3 11 (TX3 0).1 (TX3 0).2.1 (TX3 0).2.2.1 ∈ wsX3_init := by decide +kernel
set_option maxRecDepth 20000 in
theorem lkX3_init_15 : Cond.fieldLink RX3 15 (TX3 1).1 (TX3 1).2.1 (TX3 1).2.2.1 ∈ wsX3_init := by decide +kernel
set_option maxRecDepth 20000 in
theorem lkX3_init_19 : Cond.fieldLink RX3 19 (TX3 2).1 (TX3 2).2.1 (TX3 2).2.2.1 ∈ wsX3_init := by decide +kernel
set_option maxRecDepth 20000 in
theorem iwX3_rowOf_X3 : ∀ w ∈ u_ws RX3 TX3 3, w ∈ wsX3_rowOf := by decide +kernel
set_option maxRecDepth 20000 in
theorem lkX3_rowOf_15 : Cond.fieldLink RX3 15 (TX3 1).1 (TX3 1).2.1 (TX3 1).2.2.1 ∈ wsX3_rowOf := by decide +kernel
set_option maxRecDepth 20000 in
theorem iwX3_add_X3 : ∀ w ∈ u_ws RX3 TX3 3, w ∈ wsX3_add := by decide +kernel
set_option maxRecDepth 20000 in
theorem lkX3_add_19 : Cond.fieldLink RX3 19 (TX3 2).1 (TX3 2).2.1 (TX3 2).2.2.1 ∈ wsX3_add := by decide +kernel
set_option maxRecDepth 20000 in
theorem ddX3_rowOf : yX3_rowOf.cls ≠ "java/lang/invoke/MethodHandle" ∧ yX3_rowOf.cls ≠ "java/lang/invoke/VarHandle" ∧ (parseMethodDescriptor yX3_rowOf.desc).map (fun d => d.parameters.length) = some 1 := by decide +kernel
set_option maxRecDepth 20000 in
theorem lkX3_add_11 : Cond.fieldLink RX3 11 (TX3 0).1 (TX3 0).2.1 (TX3 0).2.2.1 ∈ wsX3_add := by decide +kernel
set_option maxRecDepth 20000 in
theorem iwX3_cell_X3 : ∀ w ∈ u_ws RX3 TX3 3, w ∈ wsX3_cell := by decide +kernel
set_option maxRecDepth 20000 in
theorem lkX3_cell_19 : Cond.fieldLink RX3 19 (TX3 2).1 (TX3 2).2.1 (TX3 2).2.2.1 ∈ wsX3_cell := by decide +kernel
set_option maxRecDepth 20000 in
theorem ddX4_isWithin : yX4_isWithin.cls ≠ "java/lang/invoke/MethodHandle" ∧ yX4_isWithin.cls ≠ "java/lang/invoke/VarHandle" ∧ (parseMethodDescriptor yX4_isWithin.desc).map (fun d => d.parameters.length) = some 3 := by decide +kernel
set_option maxRecDepth 20000 in
theorem wdX3_cell_inX4 : Cond.initialized RX4 ∈ wsX3_cell := by decide +kernel
set_option maxRecDepth 20000 in
theorem nlX3_22 : Cond.methodLinkNest RX3 22 yX4_isWithin "StreamQuery" ∈ nwSQ := by decide +kernel
set_option maxRecDepth 20000 in
theorem wdX3_cell_stX4_isWithin : Cond.static yX4_isWithin ∈ wsX3_cell := by decide +kernel
set_option maxRecDepth 20000 in
theorem lkX3_cell_11 : Cond.fieldLink RX3 11 (TX3 0).1 (TX3 0).2.1 (TX3 0).2.2.1 ∈ wsX3_cell := by decide +kernel
set_option maxRecDepth 20000 in
theorem iwX3_dropFirst_X3 : ∀ w ∈ u_ws RX3 TX3 3, w ∈ wsX3_dropFirst := by decide +kernel
set_option maxRecDepth 20000 in
theorem lkX3_dropFirst_19 : Cond.fieldLink RX3 19 (TX3 2).1 (TX3 2).2.1 (TX3 2).2.2.1 ∈ wsX3_dropFirst := by decide +kernel
set_option maxRecDepth 20000 in
theorem lkX3_dropFirst_15 : Cond.fieldLink RX3 15 (TX3 1).1 (TX3 1).2.1 (TX3 1).2.2.1 ∈ wsX3_dropFirst := by decide +kernel
