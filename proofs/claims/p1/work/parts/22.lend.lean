/-! THE LAW'S CALLS on the fresh pair -/
set_option maxRecDepth 100000 in
theorem kw1_addPlace : Jvm.Cond.codeWith m_LW_addPlace.1 m_LW_addPlace.2.1 m_LW_addPlace.2.2.1 m_LW_addPlace.2.2.2 [(0, 8, 11, 13)] ∈ am_big := List.mem_of_getElem? (i := 285) rfl
set_option maxRecDepth 100000 in
theorem kw2_addPlace : Jvm.Cond.methodLink "TraceAlignerLaw" 108 m_LW_addPlace.1 ∈ am_big := List.mem_of_getElem? (i := 283) rfl
set_option maxRecDepth 100000 in
theorem kw3_addPlace : Jvm.Cond.static m_LW_addPlace.1 ∈ am_big := List.mem_of_getElem? (i := 284) rfl
theorem kw4_addPlace : m_LW_addPlace.1.cls ≠ "java/lang/invoke/MethodHandle" ∧ m_LW_addPlace.1.cls ≠ "java/lang/invoke/VarHandle" ∧ (parseMethodDescriptor m_LW_addPlace.1.desc).map (fun d => d.parameters.length) = some 2 := by decide +kernel
set_option maxRecDepth 100000 in
theorem kw1_addTransition : Jvm.Cond.codeWith m_LW_addTransition.1 m_LW_addTransition.2.1 m_LW_addTransition.2.2.1 m_LW_addTransition.2.2.2 [(0, 9, 12, 19), (0, 9, 15, 13)] ∈ am_big := List.mem_of_getElem? (i := 352) rfl
set_option maxRecDepth 100000 in
theorem kw2_addTransition : Jvm.Cond.methodLink "TraceAlignerLaw" 117 m_LW_addTransition.1 ∈ am_big := List.mem_of_getElem? (i := 350) rfl
set_option maxRecDepth 100000 in
theorem kw3_addTransition : Jvm.Cond.static m_LW_addTransition.1 ∈ am_big := List.mem_of_getElem? (i := 351) rfl
theorem kw4_addTransition : m_LW_addTransition.1.cls ≠ "java/lang/invoke/MethodHandle" ∧ m_LW_addTransition.1.cls ≠ "java/lang/invoke/VarHandle" ∧ (parseMethodDescriptor m_LW_addTransition.1.desc).map (fun d => d.parameters.length) = some 3 := by decide +kernel
set_option maxRecDepth 100000 in
theorem kw1_link : Jvm.Cond.codeWith m_LW_link.1 m_LW_link.2.1 m_LW_link.2.2.1 m_LW_link.2.2.2 [(0, 21, 24, 25)] ∈ am_big := List.mem_of_getElem? (i := 381) rfl
set_option maxRecDepth 100000 in
theorem kw2_link : Jvm.Cond.methodLink "TraceAlignerLaw" 121 m_LW_link.1 ∈ am_big := List.mem_of_getElem? (i := 379) rfl
set_option maxRecDepth 100000 in
theorem kw3_link : Jvm.Cond.static m_LW_link.1 ∈ am_big := List.mem_of_getElem? (i := 380) rfl
theorem kw4_link : m_LW_link.1.cls ≠ "java/lang/invoke/MethodHandle" ∧ m_LW_link.1.cls ≠ "java/lang/invoke/VarHandle" ∧ (parseMethodDescriptor m_LW_link.1.desc).map (fun d => d.parameters.length) = some 6 := by decide +kernel
set_option maxRecDepth 100000 in
theorem kw1_setTokens : Jvm.Cond.codeWith m_LW_setTokens.1 m_LW_setTokens.2.1 m_LW_setTokens.2.2.1 m_LW_setTokens.2.2.2 [(0, 12, 15, 25), (0, 12, 19, 19)] ∈ am_big := List.mem_of_getElem? (i := 410) rfl
set_option maxRecDepth 100000 in
theorem kw2_setTokens : Jvm.Cond.methodLink "TraceAlignerLaw" 125 m_LW_setTokens.1 ∈ am_big := List.mem_of_getElem? (i := 408) rfl
set_option maxRecDepth 100000 in
theorem kw3_setTokens : Jvm.Cond.static m_LW_setTokens.1 ∈ am_big := List.mem_of_getElem? (i := 409) rfl
theorem kw4_setTokens : m_LW_setTokens.1.cls ≠ "java/lang/invoke/MethodHandle" ∧ m_LW_setTokens.1.cls ≠ "java/lang/invoke/VarHandle" ∧ (parseMethodDescriptor m_LW_setTokens.1.desc).map (fun d => d.parameters.length) = some 5 := by decide +kernel
set_option maxRecDepth 100000 in
theorem kw1_count : Jvm.Cond.codeWith m_LW_count.1 m_LW_count.2.1 m_LW_count.2.2.1 m_LW_count.2.2.2 [(0, 9, 12, 25)] ∈ am_big := List.mem_of_getElem? (i := 417) rfl
set_option maxRecDepth 100000 in
theorem kw2_count : Jvm.Cond.methodLink "TraceAlignerLaw" 129 m_LW_count.1 ∈ am_big := List.mem_of_getElem? (i := 415) rfl
set_option maxRecDepth 100000 in
theorem kw3_count : Jvm.Cond.static m_LW_count.1 ∈ am_big := List.mem_of_getElem? (i := 416) rfl
theorem kw4_count : m_LW_count.1.cls ≠ "java/lang/invoke/MethodHandle" ∧ m_LW_count.1.cls ≠ "java/lang/invoke/VarHandle" ∧ (parseMethodDescriptor m_LW_count.1.desc).map (fun d => d.parameters.length) = some 3 := by decide +kernel
set_option maxRecDepth 100000 in
theorem kw1_label : Jvm.Cond.codeWith m_LW_label.1 m_LW_label.2.1 m_LW_label.2.2.1 m_LW_label.2.2.2 [(0, 9, 12, 25)] ∈ am_big := List.mem_of_getElem? (i := 424) rfl
set_option maxRecDepth 100000 in
theorem kw2_label : Jvm.Cond.methodLink "TraceAlignerLaw" 132 m_LW_label.1 ∈ am_big := List.mem_of_getElem? (i := 422) rfl
set_option maxRecDepth 100000 in
theorem kw3_label : Jvm.Cond.static m_LW_label.1 ∈ am_big := List.mem_of_getElem? (i := 423) rfl
theorem kw4_label : m_LW_label.1.cls ≠ "java/lang/invoke/MethodHandle" ∧ m_LW_label.1.cls ≠ "java/lang/invoke/VarHandle" ∧ (parseMethodDescriptor m_LW_label.1.desc).map (fun d => d.parameters.length) = some 3 := by decide +kernel
set_option maxRecDepth 100000 in
theorem kw1_tokens : Jvm.Cond.codeWith m_LW_tokens.1 m_LW_tokens.2.1 m_LW_tokens.2.2.1 m_LW_tokens.2.2.2 [(0, 10, 13, 13), (0, 10, 17, 25)] ∈ am_big := List.mem_of_getElem? (i := 431) rfl
set_option maxRecDepth 100000 in
theorem kw2_tokens : Jvm.Cond.methodLink "TraceAlignerLaw" 139 m_LW_tokens.1 ∈ am_big := List.mem_of_getElem? (i := 429) rfl
set_option maxRecDepth 100000 in
theorem kw3_tokens : Jvm.Cond.static m_LW_tokens.1 ∈ am_big := List.mem_of_getElem? (i := 430) rfl
theorem kw4_tokens : m_LW_tokens.1.cls ≠ "java/lang/invoke/MethodHandle" ∧ m_LW_tokens.1.cls ≠ "java/lang/invoke/VarHandle" ∧ (parseMethodDescriptor m_LW_tokens.1.desc).map (fun d => d.parameters.length) = some 4 := by decide +kernel
set_option maxRecDepth 100000 in
theorem kw1_enabled : Jvm.Cond.codeWith m_LW_enabled.1 m_LW_enabled.2.1 m_LW_enabled.2.2.1 m_LW_enabled.2.2.2 [(0, 9, 12, 13), (0, 9, 15, 25)] ∈ am_big := List.mem_of_getElem? (i := 445) rfl
set_option maxRecDepth 100000 in
theorem kw2_enabled : Jvm.Cond.methodLink "TraceAlignerLaw" 143 m_LW_enabled.1 ∈ am_big := List.mem_of_getElem? (i := 443) rfl
set_option maxRecDepth 100000 in
theorem kw3_enabled : Jvm.Cond.static m_LW_enabled.1 ∈ am_big := List.mem_of_getElem? (i := 444) rfl
theorem kw4_enabled : m_LW_enabled.1.cls ≠ "java/lang/invoke/MethodHandle" ∧ m_LW_enabled.1.cls ≠ "java/lang/invoke/VarHandle" ∧ (parseMethodDescriptor m_LW_enabled.1.desc).map (fun d => d.parameters.length) = some 3 := by decide +kernel
set_option maxRecDepth 100000 in
theorem kw1_next : Jvm.Cond.codeWith m_LW_next.1 m_LW_next.2.1 m_LW_next.2.2.1 m_LW_next.2.2.2 [(0, 10, 13, 13), (0, 10, 17, 25)] ∈ am_big := List.mem_of_getElem? (i := 452) rfl
set_option maxRecDepth 100000 in
theorem kw2_next : Jvm.Cond.methodLink "TraceAlignerLaw" 146 m_LW_next.1 ∈ am_big := List.mem_of_getElem? (i := 450) rfl
set_option maxRecDepth 100000 in
theorem kw3_next : Jvm.Cond.static m_LW_next.1 ∈ am_big := List.mem_of_getElem? (i := 451) rfl
theorem kw4_next : m_LW_next.1.cls ≠ "java/lang/invoke/MethodHandle" ∧ m_LW_next.1.cls ≠ "java/lang/invoke/VarHandle" ∧ (parseMethodDescriptor m_LW_next.1.desc).map (fun d => d.parameters.length) = some 4 := by decide +kernel
set_option maxRecDepth 100000 in
theorem kw1_last : Jvm.Cond.codeWith m_LW_last.1 m_LW_last.2.1 m_LW_last.2.2.1 m_LW_last.2.2.2 [(0, 8, 11, 13)] ∈ am_big := List.mem_of_getElem? (i := 460) rfl
set_option maxRecDepth 100000 in
theorem kw2_last : Jvm.Cond.methodLink "TraceAlignerLaw" 149 m_LW_last.1 ∈ am_big := List.mem_of_getElem? (i := 458) rfl
set_option maxRecDepth 100000 in
theorem kw3_last : Jvm.Cond.static m_LW_last.1 ∈ am_big := List.mem_of_getElem? (i := 459) rfl
theorem kw4_last : m_LW_last.1.cls ≠ "java/lang/invoke/MethodHandle" ∧ m_LW_last.1.cls ≠ "java/lang/invoke/VarHandle" ∧ (parseMethodDescriptor m_LW_last.1.desc).map (fun d => d.parameters.length) = some 2 := by decide +kernel
set_option maxRecDepth 100000 in
theorem kw1_dead : Jvm.Cond.codeWith m_LW_dead.1 m_LW_dead.2.1 m_LW_dead.2.2.1 m_LW_dead.2.2.2 [(0, 8, 11, 13)] ∈ am_big := List.mem_of_getElem? (i := 467) rfl
set_option maxRecDepth 100000 in
theorem kw2_dead : Jvm.Cond.methodLink "TraceAlignerLaw" 152 m_LW_dead.1 ∈ am_big := List.mem_of_getElem? (i := 465) rfl
set_option maxRecDepth 100000 in
theorem kw3_dead : Jvm.Cond.static m_LW_dead.1 ∈ am_big := List.mem_of_getElem? (i := 466) rfl
theorem kw4_dead : m_LW_dead.1.cls ≠ "java/lang/invoke/MethodHandle" ∧ m_LW_dead.1.cls ≠ "java/lang/invoke/VarHandle" ∧ (parseMethodDescriptor m_LW_dead.1.desc).map (fun d => d.parameters.length) = some 2 := by decide +kernel
set_option maxRecDepth 100000 in
theorem kw1_live : Jvm.Cond.codeWith m_LW_live.1 m_LW_live.2.1 m_LW_live.2.2.1 m_LW_live.2.2.2 [(0, 8, 11, 13)] ∈ am_big := List.mem_of_getElem? (i := 474) rfl
set_option maxRecDepth 100000 in
theorem kw2_live : Jvm.Cond.methodLink "TraceAlignerLaw" 155 m_LW_live.1 ∈ am_big := List.mem_of_getElem? (i := 472) rfl
set_option maxRecDepth 100000 in
theorem kw3_live : Jvm.Cond.static m_LW_live.1 ∈ am_big := List.mem_of_getElem? (i := 473) rfl
theorem kw4_live : m_LW_live.1.cls ≠ "java/lang/invoke/MethodHandle" ∧ m_LW_live.1.cls ≠ "java/lang/invoke/VarHandle" ∧ (parseMethodDescriptor m_LW_live.1.desc).map (fun d => d.parameters.length) = some 2 := by decide +kernel
set_option maxRecDepth 100000 in
theorem kw1_away : Jvm.Cond.codeWith m_LW_away.1 m_LW_away.2.1 m_LW_away.2.2.1 m_LW_away.2.2.2 [(0, 9, 12, 13), (0, 9, 15, 25)] ∈ am_big := List.mem_of_getElem? (i := 481) rfl
set_option maxRecDepth 100000 in
theorem kw2_away : Jvm.Cond.methodLink "TraceAlignerLaw" 158 m_LW_away.1 ∈ am_big := List.mem_of_getElem? (i := 479) rfl
set_option maxRecDepth 100000 in
theorem kw3_away : Jvm.Cond.static m_LW_away.1 ∈ am_big := List.mem_of_getElem? (i := 480) rfl
theorem kw4_away : m_LW_away.1.cls ≠ "java/lang/invoke/MethodHandle" ∧ m_LW_away.1.cls ≠ "java/lang/invoke/VarHandle" ∧ (parseMethodDescriptor m_LW_away.1.desc).map (fun d => d.parameters.length) = some 3 := by decide +kernel
set_option maxRecDepth 100000 in
theorem kw1_event : Jvm.Cond.codeWith m_LW_event.1 m_LW_event.2.1 m_LW_event.2.2.1 m_LW_event.2.2.2 [(0, 9, 12, 19), (0, 9, 15, 13)] ∈ am_big := List.mem_of_getElem? (i := 492) rfl
set_option maxRecDepth 100000 in
theorem kw2_event : Jvm.Cond.methodLink "TraceAlignerLaw" 161 m_LW_event.1 ∈ am_big := List.mem_of_getElem? (i := 490) rfl
set_option maxRecDepth 100000 in
theorem kw3_event : Jvm.Cond.static m_LW_event.1 ∈ am_big := List.mem_of_getElem? (i := 491) rfl
theorem kw4_event : m_LW_event.1.cls ≠ "java/lang/invoke/MethodHandle" ∧ m_LW_event.1.cls ≠ "java/lang/invoke/VarHandle" ∧ (parseMethodDescriptor m_LW_event.1.desc).map (fun d => d.parameters.length) = some 3 := by decide +kernel
set_option maxRecDepth 100000 in
theorem kw1_store : Jvm.Cond.codeWith m_LW_store.1 m_LW_store.2.1 m_LW_store.2.2.1 m_LW_store.2.2.2 [(0, 9, 12, 19), (0, 9, 15, 13)] ∈ am_big := List.mem_of_getElem? (i := 499) rfl
set_option maxRecDepth 100000 in
theorem kw2_store : Jvm.Cond.methodLink "TraceAlignerLaw" 164 m_LW_store.1 ∈ am_big := List.mem_of_getElem? (i := 497) rfl
set_option maxRecDepth 100000 in
theorem kw3_store : Jvm.Cond.static m_LW_store.1 ∈ am_big := List.mem_of_getElem? (i := 498) rfl
theorem kw4_store : m_LW_store.1.cls ≠ "java/lang/invoke/MethodHandle" ∧ m_LW_store.1.cls ≠ "java/lang/invoke/VarHandle" ∧ (parseMethodDescriptor m_LW_store.1.desc).map (fun d => d.parameters.length) = some 3 := by decide +kernel
set_option maxRecDepth 100000 in
theorem kw1_dropTrace : Jvm.Cond.codeWith m_LW_dropTrace.1 m_LW_dropTrace.2.1 m_LW_dropTrace.2.2.1 m_LW_dropTrace.2.2.2 [(0, 8, 11, 13)] ∈ am_big := List.mem_of_getElem? (i := 512) rfl
set_option maxRecDepth 100000 in
theorem kw2_dropTrace : Jvm.Cond.methodLink "TraceAlignerLaw" 167 m_LW_dropTrace.1 ∈ am_big := List.mem_of_getElem? (i := 510) rfl
set_option maxRecDepth 100000 in
theorem kw3_dropTrace : Jvm.Cond.static m_LW_dropTrace.1 ∈ am_big := List.mem_of_getElem? (i := 511) rfl
theorem kw4_dropTrace : m_LW_dropTrace.1.cls ≠ "java/lang/invoke/MethodHandle" ∧ m_LW_dropTrace.1.cls ≠ "java/lang/invoke/VarHandle" ∧ (parseMethodDescriptor m_LW_dropTrace.1.desc).map (fun d => d.parameters.length) = some 2 := by decide +kernel
set_option maxRecDepth 100000 in
theorem kw1_length : Jvm.Cond.codeWith m_LW_length.1 m_LW_length.2.1 m_LW_length.2.2.1 m_LW_length.2.2.2 [(0, 9, 12, 25)] ∈ am_big := List.mem_of_getElem? (i := 519) rfl
set_option maxRecDepth 100000 in
theorem kw2_length : Jvm.Cond.methodLink "TraceAlignerLaw" 170 m_LW_length.1 ∈ am_big := List.mem_of_getElem? (i := 517) rfl
set_option maxRecDepth 100000 in
theorem kw3_length : Jvm.Cond.static m_LW_length.1 ∈ am_big := List.mem_of_getElem? (i := 518) rfl
theorem kw4_length : m_LW_length.1.cls ≠ "java/lang/invoke/MethodHandle" ∧ m_LW_length.1.cls ≠ "java/lang/invoke/VarHandle" ∧ (parseMethodDescriptor m_LW_length.1.desc).map (fun d => d.parameters.length) = some 3 := by decide +kernel
set_option maxRecDepth 100000 in
theorem kw1_setLabelCost : Jvm.Cond.codeWith m_LW_setLabelCost.1 m_LW_setLabelCost.2.1 m_LW_setLabelCost.2.2.1 m_LW_setLabelCost.2.2.2 [(0, 10, 13, 25), (0, 10, 17, 19)] ∈ am_big := List.mem_of_getElem? (i := 529) rfl
set_option maxRecDepth 100000 in
theorem kw2_setLabelCost : Jvm.Cond.methodLink "TraceAlignerLaw" 173 m_LW_setLabelCost.1 ∈ am_big := List.mem_of_getElem? (i := 527) rfl
set_option maxRecDepth 100000 in
theorem kw3_setLabelCost : Jvm.Cond.static m_LW_setLabelCost.1 ∈ am_big := List.mem_of_getElem? (i := 528) rfl
theorem kw4_setLabelCost : m_LW_setLabelCost.1.cls ≠ "java/lang/invoke/MethodHandle" ∧ m_LW_setLabelCost.1.cls ≠ "java/lang/invoke/VarHandle" ∧ (parseMethodDescriptor m_LW_setLabelCost.1.desc).map (fun d => d.parameters.length) = some 4 := by decide +kernel
set_option maxRecDepth 100000 in
theorem kw1_setCost : Jvm.Cond.codeWith m_LW_setCost.1 m_LW_setCost.2.1 m_LW_setCost.2.2.1 m_LW_setCost.2.2.2 [(0, 10, 13, 25), (0, 10, 17, 19)] ∈ am_big := List.mem_of_getElem? (i := 539) rfl
set_option maxRecDepth 100000 in
theorem kw2_setCost : Jvm.Cond.methodLink "TraceAlignerLaw" 176 m_LW_setCost.1 ∈ am_big := List.mem_of_getElem? (i := 537) rfl
set_option maxRecDepth 100000 in
theorem kw3_setCost : Jvm.Cond.static m_LW_setCost.1 ∈ am_big := List.mem_of_getElem? (i := 538) rfl
theorem kw4_setCost : m_LW_setCost.1.cls ≠ "java/lang/invoke/MethodHandle" ∧ m_LW_setCost.1.cls ≠ "java/lang/invoke/VarHandle" ∧ (parseMethodDescriptor m_LW_setCost.1.desc).map (fun d => d.parameters.length) = some 4 := by decide +kernel
set_option maxRecDepth 100000 in
theorem kw1_cost : Jvm.Cond.codeWith m_LW_cost.1 m_LW_cost.2.1 m_LW_cost.2.2.1 m_LW_cost.2.2.2 [(0, 9, 12, 25), (0, 9, 15, 13)] ∈ am_big := List.mem_of_getElem? (i := 546) rfl
set_option maxRecDepth 100000 in
theorem kw2_cost : Jvm.Cond.methodLink "TraceAlignerLaw" 179 m_LW_cost.1 ∈ am_big := List.mem_of_getElem? (i := 544) rfl
set_option maxRecDepth 100000 in
theorem kw3_cost : Jvm.Cond.static m_LW_cost.1 ∈ am_big := List.mem_of_getElem? (i := 545) rfl
theorem kw4_cost : m_LW_cost.1.cls ≠ "java/lang/invoke/MethodHandle" ∧ m_LW_cost.1.cls ≠ "java/lang/invoke/VarHandle" ∧ (parseMethodDescriptor m_LW_cost.1.desc).map (fun d => d.parameters.length) = some 3 := by decide +kernel
set_option maxRecDepth 100000 in
theorem kw1_moves : Jvm.Cond.codeWith m_LW_moves.1 m_LW_moves.2.1 m_LW_moves.2.2.1 m_LW_moves.2.2.2 [(0, 9, 12, 25), (0, 9, 15, 13)] ∈ am_big := List.mem_of_getElem? (i := 556) rfl
set_option maxRecDepth 100000 in
theorem kw2_moves : Jvm.Cond.methodLink "TraceAlignerLaw" 182 m_LW_moves.1 ∈ am_big := List.mem_of_getElem? (i := 554) rfl
set_option maxRecDepth 100000 in
theorem kw3_moves : Jvm.Cond.static m_LW_moves.1 ∈ am_big := List.mem_of_getElem? (i := 555) rfl
theorem kw4_moves : m_LW_moves.1.cls ≠ "java/lang/invoke/MethodHandle" ∧ m_LW_moves.1.cls ≠ "java/lang/invoke/VarHandle" ∧ (parseMethodDescriptor m_LW_moves.1.desc).map (fun d => d.parameters.length) = some 3 := by decide +kernel
set_option maxRecDepth 100000 in
theorem kw1_move : Jvm.Cond.codeWith m_LW_move.1 m_LW_move.2.1 m_LW_move.2.2.1 m_LW_move.2.2.2 [(0, 12, 15, 25), (0, 12, 19, 13), (0, 12, 23, 19)] ∈ am_big := List.mem_of_getElem? (i := 563) rfl
set_option maxRecDepth 100000 in
theorem kw2_move : Jvm.Cond.methodLink "TraceAlignerLaw" 185 m_LW_move.1 ∈ am_big := List.mem_of_getElem? (i := 561) rfl
set_option maxRecDepth 100000 in
theorem kw3_move : Jvm.Cond.static m_LW_move.1 ∈ am_big := List.mem_of_getElem? (i := 562) rfl
theorem kw4_move : m_LW_move.1.cls ≠ "java/lang/invoke/MethodHandle" ∧ m_LW_move.1.cls ≠ "java/lang/invoke/VarHandle" ∧ (parseMethodDescriptor m_LW_move.1.desc).map (fun d => d.parameters.length) = some 5 := by decide +kernel
set_option maxRecDepth 100000 in
theorem kw1_worst : Jvm.Cond.codeWith m_LW_worst.1 m_LW_worst.2.1 m_LW_worst.2.2.1 m_LW_worst.2.2.2 [(0, 9, 12, 25), (0, 9, 15, 13)] ∈ am_big := List.mem_of_getElem? (i := 578) rfl
set_option maxRecDepth 100000 in
theorem kw2_worst : Jvm.Cond.methodLink "TraceAlignerLaw" 189 m_LW_worst.1 ∈ am_big := List.mem_of_getElem? (i := 576) rfl
set_option maxRecDepth 100000 in
theorem kw3_worst : Jvm.Cond.static m_LW_worst.1 ∈ am_big := List.mem_of_getElem? (i := 577) rfl
theorem kw4_worst : m_LW_worst.1.cls ≠ "java/lang/invoke/MethodHandle" ∧ m_LW_worst.1.cls ≠ "java/lang/invoke/VarHandle" ∧ (parseMethodDescriptor m_LW_worst.1.desc).map (fun d => d.parameters.length) = some 3 := by decide +kernel
set_option maxRecDepth 100000 in
theorem kw1_fitness : Jvm.Cond.codeWith m_LW_fitness.1 m_LW_fitness.2.1 m_LW_fitness.2.2.1 m_LW_fitness.2.2.2 [(0, 8, 11, 25), (0, 8, 14, 13)] ∈ am_big := List.mem_of_getElem? (i := 585) rfl
set_option maxRecDepth 100000 in
theorem kw2_fitness : Jvm.Cond.methodLink "TraceAlignerLaw" 192 m_LW_fitness.1 ∈ am_big := List.mem_of_getElem? (i := 583) rfl
set_option maxRecDepth 100000 in
theorem kw3_fitness : Jvm.Cond.static m_LW_fitness.1 ∈ am_big := List.mem_of_getElem? (i := 584) rfl
theorem kw4_fitness : m_LW_fitness.1.cls ≠ "java/lang/invoke/MethodHandle" ∧ m_LW_fitness.1.cls ≠ "java/lang/invoke/VarHandle" ∧ (parseMethodDescriptor m_LW_fitness.1.desc).map (fun d => d.parameters.length) = some 3 := by decide +kernel
set_option maxRecDepth 100000 in
theorem kw1_total : Jvm.Cond.codeWith m_LW_total.1 m_LW_total.2.1 m_LW_total.2.2.1 m_LW_total.2.2.2 [(0, 10, 13, 25), (0, 10, 17, 13)] ∈ am_big := List.mem_of_getElem? (i := 599) rfl
set_option maxRecDepth 100000 in
theorem kw2_total : Jvm.Cond.methodLink "TraceAlignerLaw" 196 m_LW_total.1 ∈ am_big := List.mem_of_getElem? (i := 597) rfl
set_option maxRecDepth 100000 in
theorem kw3_total : Jvm.Cond.static m_LW_total.1 ∈ am_big := List.mem_of_getElem? (i := 598) rfl
theorem kw4_total : m_LW_total.1.cls ≠ "java/lang/invoke/MethodHandle" ∧ m_LW_total.1.cls ≠ "java/lang/invoke/VarHandle" ∧ (parseMethodDescriptor m_LW_total.1.desc).map (fun d => d.parameters.length) = some 4 := by decide +kernel
set_option maxRecDepth 100000 in
theorem kw1_allFitness : Jvm.Cond.codeWith m_LW_allFitness.1 m_LW_allFitness.2.1 m_LW_allFitness.2.2.1 m_LW_allFitness.2.2.2 [(0, 7, 10, 13)] ∈ am_big := List.mem_of_getElem? (i := 610) rfl
set_option maxRecDepth 100000 in
theorem kw2_allFitness : Jvm.Cond.methodLink "TraceAlignerLaw" 199 m_LW_allFitness.1 ∈ am_big := List.mem_of_getElem? (i := 608) rfl
set_option maxRecDepth 100000 in
theorem kw3_allFitness : Jvm.Cond.static m_LW_allFitness.1 ∈ am_big := List.mem_of_getElem? (i := 609) rfl
theorem kw4_allFitness : m_LW_allFitness.1.cls ≠ "java/lang/invoke/MethodHandle" ∧ m_LW_allFitness.1.cls ≠ "java/lang/invoke/VarHandle" ∧ (parseMethodDescriptor m_LW_allFitness.1.desc).map (fun d => d.parameters.length) = some 2 := by decide +kernel
set_option maxRecDepth 100000 in
theorem kw1_precision : Jvm.Cond.codeWith m_LW_precision.1 m_LW_precision.2.1 m_LW_precision.2.2.1 m_LW_precision.2.2.2 [(0, 7, 10, 13)] ∈ am_big := List.mem_of_getElem? (i := 617) rfl
set_option maxRecDepth 100000 in
theorem kw2_precision : Jvm.Cond.methodLink "TraceAlignerLaw" 203 m_LW_precision.1 ∈ am_big := List.mem_of_getElem? (i := 615) rfl
set_option maxRecDepth 100000 in
theorem kw3_precision : Jvm.Cond.static m_LW_precision.1 ∈ am_big := List.mem_of_getElem? (i := 616) rfl
theorem kw4_precision : m_LW_precision.1.cls ≠ "java/lang/invoke/MethodHandle" ∧ m_LW_precision.1.cls ≠ "java/lang/invoke/VarHandle" ∧ (parseMethodDescriptor m_LW_precision.1.desc).map (fun d => d.parameters.length) = some 2 := by decide +kernel
set_option maxRecDepth 100000 in
theorem kw5_LW : Jvm.Cond.initialized "TraceAlignerLaw" ∈ am_big := List.mem_of_getElem? (i := 9) rfl
theorem mF.of {h h' : am_H} (M : mF h) (o : oL h h') : mF h' := by
  have t : ∀ {a : Nat} {x : am_C}, 53 ≤ a → a < 69 → h[a]? = some x → h'[a]? = some x := fun p q r => (o.2 _ (by have := M.1; omega) (Or.inr (by omega))).trans r
  exact ⟨Nat.le_trans M.1 o.1, t (by decide) (by decide) M.2.1, t (by decide) (by decide) M.2.2.1, t (by decide) (by decide) M.2.2.2.1, t (by decide) (by decide) M.2.2.2.2.1, t (by decide) (by decide) M.2.2.2.2.2.1, t (by decide) (by decide) M.2.2.2.2.2.2.1, t (by decide) (by decide) M.2.2.2.2.2.2.2.1, t (by decide) (by decide) M.2.2.2.2.2.2.2.2.1, t (by decide) (by decide) M.2.2.2.2.2.2.2.2.2.1, t (by decide) (by decide) M.2.2.2.2.2.2.2.2.2.2⟩
def E_LWk (rows : List am_Row) (nm : String) : am_E := (am_G0, (F_LW, N_LW, C_LW), (⟨"TraceAlignerLaw", nm, "([I)Z"⟩, code, maxLocals, ret), rows)
theorem lw_sub {rows : List am_Row} {nm : String} {pc : Nat} {lo : am_L} {st : List Value} {h : am_H} {rc rs : Nat} (hr : rows.all (am_okRowb "TraceAlignerLaw" code am_big) = true) (k : am_B (E_LWk rows nm) room_1 lZ pc lo st h rc rs) : lB nm pc lo st h rc rs := fun _ => k ⟨am_big_good, okT_LW, am_okRow_of hr⟩
theorem lw_up {rows : List am_Row} {nm : String} {pc : Nat} {lo : am_L} {st : List Value} {h : am_H} {rc rs : Nat} (k : lB nm pc lo st h rc rs) : am_B (E_LWk rows nm) room_1 lZ pc lo st h rc rs := fun _ => k (e_LWn nm)
set_option maxRecDepth 100000 in
set_option maxHeartbeats 4000000 in
theorem lc_end (nm : String) (xs : Nat → Int32) (h : am_H) (h0 : h[0]? = some (.inl (99, 5, .inl xs))) (x y z : Option Value) (rc rs : Nat) : lB nm 1893 [some (.ref 0), some (.ref 1), some (.ref 53), some (.ref 69), some (.ref 70), some (.int (nI 0)), x, y, z] [] h rc rs := by
  refine lw_sub (rows := r_LW_law_27 ++ r_LW_law_0) (am_all_app ok_LW_law_27 ok_LW_law_0) ?_
  refine am_B.run (hp := false) (sp := []) 200 rfl ?_
  refine am_B.alen rfl rfl h0 (Or.inr rfl) ?_
  refine am_B.run (hp := false) (sp := []) 200 rfl ?_
  refine am_B.icmp_gt rfl rfl (fun _ => ?_) (fun z => absurd (show nI 5 - nI 5 < nI 0 + nI 5 by decide) z)
  refine am_B.run (hp := false) (sp := []) 200 rfl ?_
  exact lw_up (lB.done rfl rfl)
