set_option maxRecDepth 20000 in
theorem wdX5_init_oi1 : Cond.methodLink RX5 1 objectInit ∈ wsX5_init := by decide +kernel
set_option maxRecDepth 20000 in
theorem wdX5_init_oj : Cond.instanceMethod objectInit ∈ wsX5_init := by decide +kernel
set_option maxRecDepth 20000 in
theorem wdX5_init_ok : Cond.code objectInit ⟨#[0xb1]⟩ 1 none ∈ wsX5_init := by decide +kernel
set_option maxRecDepth 20000 in
theorem iwX5_init_X5 : ∀ w ∈ u_ws RX5 TX5 21, w ∈ wsX5_init := by decide +kernel
set_option maxRecDepth 20000 in
theorem lkX5_init_7 : Cond.fieldLink RX5 7 (TX5 0).1 (TX5 0).2.1 (TX5 0).2.2.1 ∈ wsX5_init := by decide +kernel
set_option maxRecDepth 20000 in
theorem lkX5_init_13 : Cond.fieldLink RX5 13 (TX5 1).1 (TX5 1).2.1 (TX5 1).2.2.1 ∈ wsX5_init := by decide +kernel
set_option maxRecDepth 20000 in
theorem lkX5_init_16 : Cond.fieldLink RX5 16 (TX5 4).1 (TX5 4).2.1 (TX5 4).2.2.1 ∈ wsX5_init := by decide +kernel
set_option maxRecDepth 20000 in
theorem lkX5_init_19 : Cond.fieldLink RX5 19 (TX5 5).1 (TX5 5).2.1 (TX5 5).2.2.1 ∈ wsX5_init := by decide +kernel
set_option maxRecDepth 20000 in
theorem wdX5_init_ai : Cond.arrayClass .int ∈ wsX5_init := by decide +kernel
set_option maxRecDepth 20000 in
theorem lkX5_init_22 : Cond.fieldLink RX5 22 (TX5 6).1 (TX5 6).2.1 (TX5 6).2.2.1 ∈ wsX5_init := by decide +kernel
set_option maxRecDepth 20000 in
theorem lkX5_init_26 : Cond.fieldLink RX5 26 (TX5 7).1 (TX5 7).2.1 (TX5 7).2.2.1 ∈ wsX5_init := by decide +kernel
set_option maxRecDepth 20000 in
theorem lkX5_init_29 : Cond.fieldLink RX5 29 (TX5 8).1 (TX5 8).2.1 (TX5 8).2.2.1 ∈ wsX5_init := by decide +kernel
set_option maxRecDepth 20000 in
theorem lkX5_init_32 : Cond.fieldLink RX5 32 (TX5 9).1 (TX5 9).2.1 (TX5 9).2.2.1 ∈ wsX5_init := by decide +kernel
set_option maxRecDepth 20000 in
theorem lkX5_init_35 : Cond.fieldLink RX5 35 (TX5 10).1 (TX5 10).2.1 (TX5 10).2.2.1 ∈ wsX5_init := by decide +kernel
set_option maxRecDepth 20000 in
theorem lkX5_init_38 : Cond.fieldLink RX5 38 (TX5 11).1 (TX5 11).2.1 (TX5 11).2.2.1 ∈ wsX5_init := by decide +kernel
set_option maxRecDepth 20000 in
theorem ddX5_forget : yX5_forget.cls ≠ "java/lang/invoke/MethodHandle" ∧ yX5_forget.cls ≠ "java/lang/invoke/VarHandle" ∧ (parseMethodDescriptor yX5_forget.desc).map (fun d => d.parameters.length) = some 0 := by decide +kernel
set_option maxRecDepth 20000 in
theorem wdX5_set_c60 : Cond.constant RX5 60 (1000000) ∈ wsX5_set := by decide +kernel
set_option maxRecDepth 20000 in
theorem wdX5_set_c65 : Cond.constantLong RX5 65 (16) ∈ wsX5_set := by decide +kernel
set_option maxRecDepth 20000 in
theorem iwX5_set_X5 : ∀ w ∈ u_ws RX5 TX5 21, w ∈ wsX5_set := by decide +kernel
set_option maxRecDepth 20000 in
theorem lkX5_set_7 : Cond.fieldLink RX5 7 (TX5 0).1 (TX5 0).2.1 (TX5 0).2.2.1 ∈ wsX5_set := by decide +kernel
set_option maxRecDepth 20000 in
theorem lkX5_set_13 : Cond.fieldLink RX5 13 (TX5 1).1 (TX5 1).2.1 (TX5 1).2.2.1 ∈ wsX5_set := by decide +kernel
set_option maxRecDepth 20000 in
theorem lkX5_set_67 : Cond.fieldLink RX5 67 (TX5 2).1 (TX5 2).2.1 (TX5 2).2.2.1 ∈ wsX5_set := by decide +kernel
set_option maxRecDepth 20000 in
theorem lkX5_set_70 : Cond.fieldLink RX5 70 (TX5 3).1 (TX5 3).2.1 (TX5 3).2.2.1 ∈ wsX5_set := by decide +kernel
set_option maxRecDepth 20000 in
theorem lkX5_set_16 : Cond.fieldLink RX5 16 (TX5 4).1 (TX5 4).2.1 (TX5 4).2.2.1 ∈ wsX5_set := by decide +kernel
set_option maxRecDepth 20000 in
theorem lkX5_set_19 : Cond.fieldLink RX5 19 (TX5 5).1 (TX5 5).2.1 (TX5 5).2.2.1 ∈ wsX5_set := by decide +kernel
set_option maxRecDepth 20000 in
theorem iwX5_kind_X5 : ∀ w ∈ u_ws RX5 TX5 21, w ∈ wsX5_kind := by decide +kernel
set_option maxRecDepth 20000 in
theorem lkX5_kind_45 : Cond.fieldLink RX5 45 (TX5 12).1 (TX5 12).2.1 (TX5 12).2.2.1 ∈ wsX5_kind := by decide +kernel
set_option maxRecDepth 20000 in
theorem lkX5_kind_38 : Cond.fieldLink RX5 38 (TX5 11).1 (TX5 11).2.1 (TX5 11).2.2.1 ∈ wsX5_kind := by decide +kernel
set_option maxRecDepth 20000 in
theorem iwX5_field_X5 : ∀ w ∈ u_ws RX5 TX5 21, w ∈ wsX5_field := by decide +kernel
set_option maxRecDepth 20000 in
theorem lkX5_field_45 : Cond.fieldLink RX5 45 (TX5 12).1 (TX5 12).2.1 (TX5 12).2.2.1 ∈ wsX5_field := by decide +kernel
set_option maxRecDepth 20000 in
theorem lkX5_field_38 : Cond.fieldLink RX5 38 (TX5 11).1 (TX5 11).2.1 (TX5 11).2.2.1 ∈ wsX5_field := by decide +kernel
set_option maxRecDepth 20000 in
theorem iwX5_pop_X5 : ∀ w ∈ u_ws RX5 TX5 21, w ∈ wsX5_pop := by decide +kernel
set_option maxRecDepth 20000 in
theorem lkX5_pop_45 : Cond.fieldLink RX5 45 (TX5 12).1 (TX5 12).2.1 (TX5 12).2.2.1 ∈ wsX5_pop := by decide +kernel
set_option maxRecDepth 20000 in
theorem lkX5_pop_38 : Cond.fieldLink RX5 38 (TX5 11).1 (TX5 11).2.1 (TX5 11).2.2.1 ∈ wsX5_pop := by decide +kernel
set_option maxRecDepth 20000 in
theorem iwX5_event__X5 : ∀ w ∈ u_ws RX5 TX5 21, w ∈ wsX5_event_ := by decide +kernel
set_option maxRecDepth 20000 in
theorem lkX5_event__32 : Cond.fieldLink RX5 32 (TX5 9).1 (TX5 9).2.1 (TX5 9).2.2.1 ∈ wsX5_event_ := by decide +kernel
set_option maxRecDepth 20000 in
theorem lkX5_event__22 : Cond.fieldLink RX5 22 (TX5 6).1 (TX5 6).2.1 (TX5 6).2.2.1 ∈ wsX5_event_ := by decide +kernel
set_option maxRecDepth 20000 in
theorem lkX5_event__26 : Cond.fieldLink RX5 26 (TX5 7).1 (TX5 7).2.1 (TX5 7).2.2.1 ∈ wsX5_event_ := by decide +kernel
set_option maxRecDepth 20000 in
theorem lkX5_event__29 : Cond.fieldLink RX5 29 (TX5 8).1 (TX5 8).2.1 (TX5 8).2.2.1 ∈ wsX5_event_ := by decide +kernel
