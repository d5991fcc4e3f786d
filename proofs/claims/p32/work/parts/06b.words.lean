/-! WORDS by name, by program -/
set_option maxRecDepth 100000 in
theorem ow_TA : Jvm.Cond.methodLink "TraceAligner" 1 objectInit ∈ am_big := List.mem_of_getElem? (i := 25) rfl
set_option maxRecDepth 100000 in
theorem ow_NT : Jvm.Cond.methodLink "TraceAligner$Net" 3 objectInit ∈ am_big := List.mem_of_getElem? (i := 32) rfl
set_option maxRecDepth 100000 in
theorem ow_MG : Jvm.Cond.methodLink "TraceAligner$MarkingGraph" 3 objectInit ∈ am_big := List.mem_of_getElem? (i := 68) rfl
set_option maxRecDepth 100000 in
theorem ow_PF : Jvm.Cond.methodLink "TraceAligner$PathFinder" 3 objectInit ∈ am_big := List.mem_of_getElem? (i := 97) rfl
set_option maxRecDepth 100000 in
theorem ow_TR : Jvm.Cond.methodLink "TraceAligner$Trace" 3 objectInit ∈ am_big := List.mem_of_getElem? (i := 113) rfl
set_option maxRecDepth 100000 in
theorem ow_1 : Jvm.Cond.instanceMethod objectInit ∈ am_big := List.mem_of_getElem? (i := 26) rfl
set_option maxRecDepth 100000 in
theorem ow_2 : Jvm.Cond.code objectInit ⟨#[0xb1]⟩ 1 none ∈ am_big := List.mem_of_getElem? (i := 27) rfl
set_option maxRecDepth 100000 in
theorem lw_LW_20 : Jvm.Cond.classLink "TraceAlignerLaw" 20 "TraceAligner" ∈ am_big := List.mem_of_getElem? (i := 20) rfl
set_option maxRecDepth 100000 in
theorem lw_TA_7 : Jvm.Cond.classLink "TraceAligner" 7 "TraceAligner$Net" ∈ am_big := List.mem_of_getElem? (i := 28) rfl
set_option maxRecDepth 100000 in
theorem aw_int : Jvm.Cond.arrayClass .int ∈ am_big := List.mem_of_getElem? (i := 62) rfl
set_option maxRecDepth 100000 in
theorem lw_TA_16 : Jvm.Cond.classLink "TraceAligner" 16 "TraceAligner$MarkingGraph" ∈ am_big := List.mem_of_getElem? (i := 63) rfl
set_option maxRecDepth 100000 in
theorem lw_TA_35 : Jvm.Cond.classLink "TraceAligner" 35 "TraceAligner$PathFinder" ∈ am_big := List.mem_of_getElem? (i := 92) rfl
set_option maxRecDepth 100000 in
theorem lw_PF_15 : Jvm.Cond.classLink "TraceAligner$PathFinder" 15 "[[I" ∈ am_big := List.mem_of_getElem? (i := 98) rfl
set_option maxRecDepth 100000 in
theorem lw_TA_47 : Jvm.Cond.classLink "TraceAligner" 47 "TraceAligner$Trace" ∈ am_big := List.mem_of_getElem? (i := 109) rfl
set_option maxRecDepth 100000 in
theorem aw_byte : Jvm.Cond.arrayClass .byte ∈ am_big := List.mem_of_getElem? (i := 244) rfl
set_option maxRecDepth 100000 in
theorem lw_LW_53 : Jvm.Cond.classLink "TraceAlignerLaw" 53 "[I" ∈ am_big := List.mem_of_getElem? (i := 471) rfl
set_option maxRecDepth 100000 in
theorem cw_nat : Jvm.Cond.native arraycopyName ∈ am_big := List.mem_of_getElem? (i := 481) rfl
set_option maxRecDepth 100000 in
theorem cw_sta : Jvm.Cond.static arraycopyName ∈ am_big := List.mem_of_getElem? (i := 326) rfl
set_option maxRecDepth 100000 in
theorem cw_ini : Jvm.Cond.initialized "java/lang/System" ∈ am_big := List.mem_of_getElem? (i := 17) rfl
set_option maxRecDepth 100000 in
theorem cw_TR_18 : Jvm.Cond.methodLink "TraceAligner$Trace" 18 arraycopyName ∈ am_big := List.mem_of_getElem? (i := 325) rfl
