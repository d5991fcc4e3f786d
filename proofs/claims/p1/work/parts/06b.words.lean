/-! WORDS by name, by program -/
set_option maxRecDepth 100000 in
theorem ow_TA : Jvm.Cond.methodLink "TraceAligner" 1 objectInit ∈ am_big := List.mem_of_getElem? (i := 31) rfl
set_option maxRecDepth 100000 in
theorem ow_NT : Jvm.Cond.methodLink "TraceAligner$Net" 3 objectInit ∈ am_big := List.mem_of_getElem? (i := 38) rfl
set_option maxRecDepth 100000 in
theorem ow_MG : Jvm.Cond.methodLink "TraceAligner$MarkingGraph" 3 objectInit ∈ am_big := List.mem_of_getElem? (i := 76) rfl
set_option maxRecDepth 100000 in
theorem ow_PF : Jvm.Cond.methodLink "TraceAligner$PathFinder" 3 objectInit ∈ am_big := List.mem_of_getElem? (i := 107) rfl
set_option maxRecDepth 100000 in
theorem ow_TR : Jvm.Cond.methodLink "TraceAligner$Trace" 3 objectInit ∈ am_big := List.mem_of_getElem? (i := 124) rfl
set_option maxRecDepth 100000 in
theorem ow_MO : Jvm.Cond.methodLink "TraceAlignerModel" 3 objectInit ∈ am_big := List.mem_of_getElem? (i := 640) rfl
set_option maxRecDepth 100000 in
theorem ow_1 : Jvm.Cond.instanceMethod objectInit ∈ am_big := List.mem_of_getElem? (i := 32) rfl
set_option maxRecDepth 100000 in
theorem ow_2 : Jvm.Cond.code objectInit ⟨#[0xb1]⟩ 1 none ∈ am_big := List.mem_of_getElem? (i := 33) rfl
set_option maxRecDepth 100000 in
theorem lw_LW_8 : Jvm.Cond.classLink "TraceAlignerLaw" 8 "TraceAligner" ∈ am_big := List.mem_of_getElem? (i := 26) rfl
set_option maxRecDepth 100000 in
theorem lw_TA_7 : Jvm.Cond.classLink "TraceAligner" 7 "TraceAligner$Net" ∈ am_big := List.mem_of_getElem? (i := 34) rfl
set_option maxRecDepth 100000 in
theorem aw_int : Jvm.Cond.arrayClass .int ∈ am_big := List.mem_of_getElem? (i := 70) rfl
set_option maxRecDepth 100000 in
theorem lw_TA_16 : Jvm.Cond.classLink "TraceAligner" 16 "TraceAligner$MarkingGraph" ∈ am_big := List.mem_of_getElem? (i := 71) rfl
set_option maxRecDepth 100000 in
theorem lw_TA_35 : Jvm.Cond.classLink "TraceAligner" 35 "TraceAligner$PathFinder" ∈ am_big := List.mem_of_getElem? (i := 102) rfl
set_option maxRecDepth 100000 in
theorem lw_PF_15 : Jvm.Cond.classLink "TraceAligner$PathFinder" 15 "[[I" ∈ am_big := List.mem_of_getElem? (i := 108) rfl
set_option maxRecDepth 100000 in
theorem lw_TA_47 : Jvm.Cond.classLink "TraceAligner" 47 "TraceAligner$Trace" ∈ am_big := List.mem_of_getElem? (i := 120) rfl
set_option maxRecDepth 100000 in
theorem aw_byte : Jvm.Cond.arrayClass .byte ∈ am_big := List.mem_of_getElem? (i := 339) rfl
set_option maxRecDepth 100000 in
theorem lw_LW_105 : Jvm.Cond.classLink "TraceAlignerLaw" 105 "TraceAlignerModel" ∈ am_big := List.mem_of_getElem? (i := 635) rfl
set_option maxRecDepth 100000 in
theorem aw_boolean : Jvm.Cond.arrayClass .boolean ∈ am_big := List.mem_of_getElem? (i := 796) rfl
set_option maxRecDepth 100000 in
theorem aw_long : Jvm.Cond.arrayClass .long ∈ am_big := List.mem_of_getElem? (i := 898) rfl
set_option maxRecDepth 100000 in
theorem aw_double : Jvm.Cond.arrayClass .double ∈ am_big := List.mem_of_getElem? (i := 899) rfl
set_option maxRecDepth 100000 in
theorem cw_nat : Jvm.Cond.native arraycopyName ∈ am_big := List.mem_of_getElem? (i := 935) rfl
set_option maxRecDepth 100000 in
theorem cw_sta : Jvm.Cond.static arraycopyName ∈ am_big := List.mem_of_getElem? (i := 509) rfl
set_option maxRecDepth 100000 in
theorem cw_ini : Jvm.Cond.initialized "java/lang/System" ∈ am_big := List.mem_of_getElem? (i := 23) rfl
set_option maxRecDepth 100000 in
theorem cw_TR_18 : Jvm.Cond.methodLink "TraceAligner$Trace" 18 arraycopyName ∈ am_big := List.mem_of_getElem? (i := 508) rfl
