set_option maxRecDepth 20000 in
theorem ddX4_set : yX4_set.cls ≠ "java/lang/invoke/MethodHandle" ∧ yX4_set.cls ≠ "java/lang/invoke/VarHandle" ∧ (parseMethodDescriptor yX4_set.desc).map (fun d => d.parameters.length) = some 6 := by decide +kernel
set_option maxRecDepth 20000 in
theorem ddX5_set : yX5_set.cls ≠ "java/lang/invoke/MethodHandle" ∧ yX5_set.cls ≠ "java/lang/invoke/VarHandle" ∧ (parseMethodDescriptor yX5_set.desc).map (fun d => d.parameters.length) = some 6 := by decide +kernel
set_option maxRecDepth 20000 in
theorem ddX4_eventA : yX4_eventA.cls ≠ "java/lang/invoke/MethodHandle" ∧ yX4_eventA.cls ≠ "java/lang/invoke/VarHandle" ∧ (parseMethodDescriptor yX4_eventA.desc).map (fun d => d.parameters.length) = some 3 := by decide +kernel
set_option maxRecDepth 20000 in
theorem ddX5_eventA : yX5_eventA.cls ≠ "java/lang/invoke/MethodHandle" ∧ yX5_eventA.cls ≠ "java/lang/invoke/VarHandle" ∧ (parseMethodDescriptor yX5_eventA.desc).map (fun d => d.parameters.length) = some 3 := by decide +kernel
set_option maxRecDepth 20000 in
theorem ddX4_eventB : yX4_eventB.cls ≠ "java/lang/invoke/MethodHandle" ∧ yX4_eventB.cls ≠ "java/lang/invoke/VarHandle" ∧ (parseMethodDescriptor yX4_eventB.desc).map (fun d => d.parameters.length) = some 3 := by decide +kernel
set_option maxRecDepth 20000 in
theorem ddX5_eventB : yX5_eventB.cls ≠ "java/lang/invoke/MethodHandle" ∧ yX5_eventB.cls ≠ "java/lang/invoke/VarHandle" ∧ (parseMethodDescriptor yX5_eventB.desc).map (fun d => d.parameters.length) = some 3 := by decide +kernel
set_option maxRecDepth 20000 in
theorem ddX4_markA : yX4_markA.cls ≠ "java/lang/invoke/MethodHandle" ∧ yX4_markA.cls ≠ "java/lang/invoke/VarHandle" ∧ (parseMethodDescriptor yX4_markA.desc).map (fun d => d.parameters.length) = some 1 := by decide +kernel
set_option maxRecDepth 20000 in
theorem ddX5_markA : yX5_markA.cls ≠ "java/lang/invoke/MethodHandle" ∧ yX5_markA.cls ≠ "java/lang/invoke/VarHandle" ∧ (parseMethodDescriptor yX5_markA.desc).map (fun d => d.parameters.length) = some 1 := by decide +kernel
set_option maxRecDepth 20000 in
theorem ddX4_markB : yX4_markB.cls ≠ "java/lang/invoke/MethodHandle" ∧ yX4_markB.cls ≠ "java/lang/invoke/VarHandle" ∧ (parseMethodDescriptor yX4_markB.desc).map (fun d => d.parameters.length) = some 1 := by decide +kernel
set_option maxRecDepth 20000 in
theorem ddX5_markB : yX5_markB.cls ≠ "java/lang/invoke/MethodHandle" ∧ yX5_markB.cls ≠ "java/lang/invoke/VarHandle" ∧ (parseMethodDescriptor yX5_markB.desc).map (fun d => d.parameters.length) = some 1 := by decide +kernel
set_option maxRecDepth 20000 in
theorem ddX4_available : yX4_available.cls ≠ "java/lang/invoke/MethodHandle" ∧ yX4_available.cls ≠ "java/lang/invoke/VarHandle" ∧ (parseMethodDescriptor yX4_available.desc).map (fun d => d.parameters.length) = some 0 := by decide +kernel
set_option maxRecDepth 20000 in
theorem ddX5_available : yX5_available.cls ≠ "java/lang/invoke/MethodHandle" ∧ yX5_available.cls ≠ "java/lang/invoke/VarHandle" ∧ (parseMethodDescriptor yX5_available.desc).map (fun d => d.parameters.length) = some 0 := by decide +kernel
set_option maxRecDepth 20000 in
theorem ddX4_kind : yX4_kind.cls ≠ "java/lang/invoke/MethodHandle" ∧ yX4_kind.cls ≠ "java/lang/invoke/VarHandle" ∧ (parseMethodDescriptor yX4_kind.desc).map (fun d => d.parameters.length) = some 1 := by decide +kernel
set_option maxRecDepth 20000 in
theorem ddX5_kind : yX5_kind.cls ≠ "java/lang/invoke/MethodHandle" ∧ yX5_kind.cls ≠ "java/lang/invoke/VarHandle" ∧ (parseMethodDescriptor yX5_kind.desc).map (fun d => d.parameters.length) = some 1 := by decide +kernel
set_option maxRecDepth 20000 in
theorem ddX4_field : yX4_field.cls ≠ "java/lang/invoke/MethodHandle" ∧ yX4_field.cls ≠ "java/lang/invoke/VarHandle" ∧ (parseMethodDescriptor yX4_field.desc).map (fun d => d.parameters.length) = some 2 := by decide +kernel
set_option maxRecDepth 20000 in
theorem ddX5_field : yX5_field.cls ≠ "java/lang/invoke/MethodHandle" ∧ yX5_field.cls ≠ "java/lang/invoke/VarHandle" ∧ (parseMethodDescriptor yX5_field.desc).map (fun d => d.parameters.length) = some 2 := by decide +kernel
set_option maxRecDepth 20000 in
theorem ddX4_pop : yX4_pop.cls ≠ "java/lang/invoke/MethodHandle" ∧ yX4_pop.cls ≠ "java/lang/invoke/VarHandle" ∧ (parseMethodDescriptor yX4_pop.desc).map (fun d => d.parameters.length) = some 0 := by decide +kernel
set_option maxRecDepth 20000 in
theorem ddX5_pop : yX5_pop.cls ≠ "java/lang/invoke/MethodHandle" ∧ yX5_pop.cls ≠ "java/lang/invoke/VarHandle" ∧ (parseMethodDescriptor yX5_pop.desc).map (fun d => d.parameters.length) = some 0 := by decide +kernel
set_option maxRecDepth 20000 in
theorem ddX4_look : yX4_look.cls ≠ "java/lang/invoke/MethodHandle" ∧ yX4_look.cls ≠ "java/lang/invoke/VarHandle" ∧ (parseMethodDescriptor yX4_look.desc).map (fun d => d.parameters.length) = some 3 := by decide +kernel
set_option maxRecDepth 20000 in
theorem ddX5_look : yX5_look.cls ≠ "java/lang/invoke/MethodHandle" ∧ yX5_look.cls ≠ "java/lang/invoke/VarHandle" ∧ (parseMethodDescriptor yX5_look.desc).map (fun d => d.parameters.length) = some 3 := by decide +kernel
set_option maxRecDepth 20000 in
theorem ddX4_event : yX4_event.cls ≠ "java/lang/invoke/MethodHandle" ∧ yX4_event.cls ≠ "java/lang/invoke/VarHandle" ∧ (parseMethodDescriptor yX4_event.desc).map (fun d => d.parameters.length) = some 3 := by decide +kernel
set_option maxRecDepth 20000 in
theorem ddX5_event_ : yX5_event_.cls ≠ "java/lang/invoke/MethodHandle" ∧ yX5_event_.cls ≠ "java/lang/invoke/VarHandle" ∧ (parseMethodDescriptor yX5_event_.desc).map (fun d => d.parameters.length) = some 3 := by decide +kernel
set_option maxRecDepth 20000 in
theorem ddX4_count : yX4_count.cls ≠ "java/lang/invoke/MethodHandle" ∧ yX4_count.cls ≠ "java/lang/invoke/VarHandle" ∧ (parseMethodDescriptor yX4_count.desc).map (fun d => d.parameters.length) = some 1 := by decide +kernel
set_option maxRecDepth 20000 in
theorem ddX5_count : yX5_count.cls ≠ "java/lang/invoke/MethodHandle" ∧ yX5_count.cls ≠ "java/lang/invoke/VarHandle" ∧ (parseMethodDescriptor yX5_count.desc).map (fun d => d.parameters.length) = some 1 := by decide +kernel
set_option maxRecDepth 20000 in
theorem wdL_law_cl7 : Cond.classLink RL 7 RX4 ∈ wsL_law := by decide +kernel
set_option maxRecDepth 20000 in
theorem wdL_law_itX4 : Cond.instantiable RX4 16 ∈ wsL_law := by decide +kernel
set_option maxRecDepth 20000 in
theorem wdL_law_inX4 : Cond.initialized RX4 ∈ wsL_law := by decide +kernel
set_option maxRecDepth 20000 in
theorem dfX4 : ∀ j, j < 16 → defaultValue (tyX4 j) = vp_V [.null, .null, .null, .null, .int 0, .int 0, .int 0, .int 0, .int 0, .int 0, .int 0, .int 0, .int 0, .int 0, .int 0, .int 0] j := by decide +kernel
set_option maxRecDepth 20000 in
theorem ddX4_init : yX4_init.cls ≠ "java/lang/invoke/MethodHandle" ∧ yX4_init.cls ≠ "java/lang/invoke/VarHandle" ∧ (parseMethodDescriptor yX4_init.desc).map (fun d => d.parameters.length) = some 0 := by decide +kernel
set_option maxRecDepth 20000 in
theorem wdL_law_ml9 : Cond.methodLink RL 9 yX4_init ∈ wsL_law := by decide +kernel
set_option maxRecDepth 20000 in
theorem wdL_law_imX4_init : Cond.instanceMethod yX4_init ∈ wsL_law := by decide +kernel
set_option maxRecDepth 20000 in
theorem wdL_law_cl10 : Cond.classLink RL 10 RX5 ∈ wsL_law := by decide +kernel
set_option maxRecDepth 20000 in
theorem wdL_law_itX5 : Cond.instantiable RX5 21 ∈ wsL_law := by decide +kernel
set_option maxRecDepth 20000 in
theorem wdL_law_inX5 : Cond.initialized RX5 ∈ wsL_law := by decide +kernel
set_option maxRecDepth 20000 in
theorem dfX5 : ∀ j, j < 21 → defaultValue (tyX5 j) = vp_V [.int 0, .int 0, .int 0, .int 0, .int 0, .int 0, .null, .null, .null, .null, .null, .null, .int 0, .int 0, .int 0, .int 0, .int 0, .int 0, .int 0, .int 0, .int 0] j := by decide +kernel
set_option maxRecDepth 20000 in
theorem ddX5_init : yX5_init.cls ≠ "java/lang/invoke/MethodHandle" ∧ yX5_init.cls ≠ "java/lang/invoke/VarHandle" ∧ (parseMethodDescriptor yX5_init.desc).map (fun d => d.parameters.length) = some 0 := by decide +kernel
set_option maxRecDepth 20000 in
theorem wdL_law_ml12 : Cond.methodLink RL 12 yX5_init ∈ wsL_law := by decide +kernel
set_option maxRecDepth 20000 in
theorem wdL_law_imX5_init : Cond.instanceMethod yX5_init ∈ wsL_law := by decide +kernel
