set_option maxRecDepth 20000 in
theorem iwX0_size_X0 : ∀ w ∈ u_ws RX0 TX0 4, w ∈ wsX0_size := by decide +kernel
set_option maxRecDepth 20000 in
theorem lkX0_size_21 : Cond.fieldLink RX0 21 (TX0 3).1 (TX0 3).2.1 (TX0 3).2.2.1 ∈ wsX0_size := by decide +kernel
set_option maxRecDepth 20000 in
theorem iwX0_has_X0 : ∀ w ∈ u_ws RX0 TX0 4, w ∈ wsX0_has := by decide +kernel
set_option maxRecDepth 20000 in
theorem lkX0_has_21 : Cond.fieldLink RX0 21 (TX0 3).1 (TX0 3).2.1 (TX0 3).2.2.1 ∈ wsX0_has := by decide +kernel
set_option maxRecDepth 20000 in
theorem ddX0_has : yX0_has.cls ≠ "java/lang/invoke/MethodHandle" ∧ yX0_has.cls ≠ "java/lang/invoke/VarHandle" ∧ (parseMethodDescriptor yX0_has.desc).map (fun d => d.parameters.length) = some 1 := by decide +kernel
set_option maxRecDepth 20000 in
theorem iwX0_time_X0 : ∀ w ∈ u_ws RX0 TX0 4, w ∈ wsX0_time := by decide +kernel
set_option maxRecDepth 20000 in
theorem lkX0_time_9 : Cond.fieldLink RX0 9 (TX0 0).1 (TX0 0).2.1 (TX0 0).2.2.1 ∈ wsX0_time := by decide +kernel
set_option maxRecDepth 20000 in
theorem iwX0_key_X0 : ∀ w ∈ u_ws RX0 TX0 4, w ∈ wsX0_key := by decide +kernel
set_option maxRecDepth 20000 in
theorem lkX0_key_15 : Cond.fieldLink RX0 15 (TX0 1).1 (TX0 1).2.1 (TX0 1).2.2.1 ∈ wsX0_key := by decide +kernel
set_option maxRecDepth 20000 in
theorem iwX0_value_X0 : ∀ w ∈ u_ws RX0 TX0 4, w ∈ wsX0_value := by decide +kernel
set_option maxRecDepth 20000 in
theorem lkX0_value_18 : Cond.fieldLink RX0 18 (TX0 2).1 (TX0 2).2.1 (TX0 2).2.2.1 ∈ wsX0_value := by decide +kernel
set_option maxRecDepth 20000 in
theorem iwX0_clear_X0 : ∀ w ∈ u_ws RX0 TX0 4, w ∈ wsX0_clear := by decide +kernel
set_option maxRecDepth 20000 in
theorem lkX0_clear_21 : Cond.fieldLink RX0 21 (TX0 3).1 (TX0 3).2.1 (TX0 3).2.2.1 ∈ wsX0_clear := by decide +kernel
set_option maxRecDepth 20000 in
theorem iwX0_add_X0 : ∀ w ∈ u_ws RX0 TX0 4, w ∈ wsX0_add := by decide +kernel
set_option maxRecDepth 20000 in
theorem lkX0_add_21 : Cond.fieldLink RX0 21 (TX0 3).1 (TX0 3).2.1 (TX0 3).2.2.1 ∈ wsX0_add := by decide +kernel
set_option maxRecDepth 20000 in
theorem lkX0_add_9 : Cond.fieldLink RX0 9 (TX0 0).1 (TX0 0).2.1 (TX0 0).2.2.1 ∈ wsX0_add := by decide +kernel
set_option maxRecDepth 20000 in
theorem lkX0_add_15 : Cond.fieldLink RX0 15 (TX0 1).1 (TX0 1).2.1 (TX0 1).2.2.1 ∈ wsX0_add := by decide +kernel
set_option maxRecDepth 20000 in
theorem lkX0_add_18 : Cond.fieldLink RX0 18 (TX0 2).1 (TX0 2).2.1 (TX0 2).2.2.1 ∈ wsX0_add := by decide +kernel
set_option maxRecDepth 20000 in
theorem iwX0_isNear_X0 : ∀ w ∈ u_ws RX0 TX0 4, w ∈ wsX0_isNear := by decide +kernel
set_option maxRecDepth 20000 in
theorem lkX0_isNear_15 : Cond.fieldLink RX0 15 (TX0 1).1 (TX0 1).2.1 (TX0 1).2.2.1 ∈ wsX0_isNear := by decide +kernel
set_option maxRecDepth 20000 in
theorem lkX0_isNear_9 : Cond.fieldLink RX0 9 (TX0 0).1 (TX0 0).2.1 (TX0 0).2.2.1 ∈ wsX0_isNear := by decide +kernel
set_option maxRecDepth 20000 in
theorem wdX0_isNear_mabs0 : Cond.methodLink RX0 29 Lib.Math.abs.name ∈ wsX0_isNear := by decide +kernel
set_option maxRecDepth 20000 in
theorem wdX0_isNear_mabs1 : Cond.static Lib.Math.abs.name ∈ wsX0_isNear := by decide +kernel
set_option maxRecDepth 20000 in
theorem wdX0_isNear_mabs2 : Cond.initialized "java/lang/Math" ∈ wsX0_isNear := by decide +kernel
set_option maxRecDepth 20000 in
theorem wdX0_isNear_mabs3 : Cond.code Lib.Math.abs.name Lib.Math.abs.code 1 (some .int) ∈ wsX0_isNear := by decide +kernel
set_option maxRecDepth 20000 in
theorem iwX0_manyNear_X0 : ∀ w ∈ u_ws RX0 TX0 4, w ∈ wsX0_manyNear := by decide +kernel
set_option maxRecDepth 20000 in
theorem lkX0_manyNear_21 : Cond.fieldLink RX0 21 (TX0 3).1 (TX0 3).2.1 (TX0 3).2.2.1 ∈ wsX0_manyNear := by decide +kernel
set_option maxRecDepth 20000 in
theorem ddX0_isNear : yX0_isNear.cls ≠ "java/lang/invoke/MethodHandle" ∧ yX0_isNear.cls ≠ "java/lang/invoke/VarHandle" ∧ (parseMethodDescriptor yX0_isNear.desc).map (fun d => d.parameters.length) = some 4 := by decide +kernel
set_option maxRecDepth 20000 in
theorem iwX0_dropBelow_X0 : ∀ w ∈ u_ws RX0 TX0 4, w ∈ wsX0_dropBelow := by decide +kernel
set_option maxRecDepth 20000 in
theorem lkX0_dropBelow_9 : Cond.fieldLink RX0 9 (TX0 0).1 (TX0 0).2.1 (TX0 0).2.2.1 ∈ wsX0_dropBelow := by decide +kernel
set_option maxRecDepth 20000 in
theorem lkX0_dropBelow_15 : Cond.fieldLink RX0 15 (TX0 1).1 (TX0 1).2.1 (TX0 1).2.2.1 ∈ wsX0_dropBelow := by decide +kernel
set_option maxRecDepth 20000 in
theorem lkX0_dropBelow_18 : Cond.fieldLink RX0 18 (TX0 2).1 (TX0 2).2.1 (TX0 2).2.2.1 ∈ wsX0_dropBelow := by decide +kernel
set_option maxRecDepth 20000 in
theorem ddX0_add : yX0_add.cls ≠ "java/lang/invoke/MethodHandle" ∧ yX0_add.cls ≠ "java/lang/invoke/VarHandle" ∧ (parseMethodDescriptor yX0_add.desc).map (fun d => d.parameters.length) = some 3 := by decide +kernel
set_option maxRecDepth 20000 in
theorem lkX0_dropBelow_21 : Cond.fieldLink RX0 21 (TX0 3).1 (TX0 3).2.1 (TX0 3).2.2.1 ∈ wsX0_dropBelow := by decide +kernel
set_option maxRecDepth 20000 in
theorem wdX0_init_oi3 : Cond.methodLink RX0 3 objectInit ∈ wsX0_init := by decide +kernel
set_option maxRecDepth 20000 in
theorem wdX0_init_oj : Cond.instanceMethod objectInit ∈ wsX0_init := by decide +kernel
set_option maxRecDepth 20000 in
theorem wdX0_init_ok : Cond.code objectInit ⟨#[0xb1]⟩ 1 none ∈ wsX0_init := by decide +kernel
set_option maxRecDepth 20000 in
theorem wdX0_init_ai : Cond.arrayClass .int ∈ wsX0_init := by decide +kernel
set_option maxRecDepth 20000 in
theorem iwX0_init_X0 : ∀ w ∈ u_ws RX0 TX0 4, w ∈ wsX0_init := by decide +kernel
set_option maxRecDepth 20000 in
theorem lkX0_init_9 : Cond.fieldLink RX0 9 (TX0 0).1 (TX0 0).2.1 (TX0 0).2.2.1 ∈ wsX0_init := by decide +kernel
set_option maxRecDepth 20000 in
theorem lkX0_init_15 : Cond.fieldLink RX0 15 (TX0 1).1 (TX0 1).2.1 (TX0 1).2.2.1 ∈ wsX0_init := by decide +kernel
set_option maxRecDepth 20000 in
theorem lkX0_init_18 : Cond.fieldLink RX0 18 (TX0 2).1 (TX0 2).2.1 (TX0 2).2.2.1 ∈ wsX0_init := by decide +kernel
set_option maxRecDepth 20000 in
theorem lkX0_init_21 : Cond.fieldLink RX0 21 (TX0 3).1 (TX0 3).2.1 (TX0 3).2.2.1 ∈ wsX0_init := by decide +kernel
