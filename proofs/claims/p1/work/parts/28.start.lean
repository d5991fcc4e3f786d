/-! THE START: the tables' classes, the arrays, what a throw wants, by name -/
set_option maxRecDepth 100000 in
theorem wi_0 : Jvm.Cond.instantiable "TraceAligner" 9 ∈ am_big := List.mem_of_getElem? (i := 27) rfl
set_option maxRecDepth 100000 in
theorem wi_1 : Jvm.Cond.instantiable "TraceAligner$Net" 8 ∈ am_big := List.mem_of_getElem? (i := 35) rfl
set_option maxRecDepth 100000 in
theorem wi_2 : Jvm.Cond.instantiable "TraceAligner$MarkingGraph" 7 ∈ am_big := List.mem_of_getElem? (i := 72) rfl
set_option maxRecDepth 100000 in
theorem wi_3 : Jvm.Cond.instantiable "TraceAligner$PathFinder" 5 ∈ am_big := List.mem_of_getElem? (i := 103) rfl
set_option maxRecDepth 100000 in
theorem wi_4 : Jvm.Cond.instantiable "TraceAligner$Trace" 8 ∈ am_big := List.mem_of_getElem? (i := 121) rfl
set_option maxRecDepth 100000 in
theorem wi_5 : Jvm.Cond.instantiable "TraceAlignerModel" 29 ∈ am_big := List.mem_of_getElem? (i := 636) rfl
set_option maxRecDepth 100000 in
theorem wo_A : Jvm.Cond.arrayOver (.array .int) ∈ lw_tbl := List.mem_of_getElem? (i := 150) rfl
set_option maxRecDepth 100000 in
theorem wo_T : Jvm.Cond.arrayOver (.object "TraceAligner$Trace") ∈ lw_tbl := List.mem_of_getElem? (i := 168) rfl
set_option maxRecDepth 100000 in
theorem wn_0 : Jvm.Cond.methodLinkNest "TraceAligner" 9 ⟨"TraceAligner$Net", "<init>", "()V"⟩ "TraceAligner" ∈ lw_tbl := List.mem_of_getElem? (i := 61) rfl
set_option maxRecDepth 100000 in
theorem wn_1 : Jvm.Cond.methodLinkNest "TraceAligner" 53 ⟨"TraceAligner$Trace", "<init>", "()V"⟩ "TraceAligner" ∈ lw_tbl := List.mem_of_getElem? (i := 170) rfl
set_option maxRecDepth 100000 in
theorem wn_2 : Jvm.Cond.methodLinkNest "TraceAligner$Net" 37 ⟨"TraceAligner", "isIn", "(II)Z"⟩ "TraceAligner" ∈ lw_tbl := List.mem_of_getElem? (i := 262) rfl
set_option maxRecDepth 100000 in
theorem wn_3 : Jvm.Cond.methodLinkNest "TraceAligner$Net" 41 ⟨"TraceAligner", "tokensIn", "(II)I"⟩ "TraceAligner" ∈ lw_tbl := List.mem_of_getElem? (i := 265) rfl
set_option maxRecDepth 100000 in
theorem wn_4 : Jvm.Cond.methodLinkNest "TraceAligner$PathFinder" 127 ⟨"TraceAligner", "packMove", "(IIII)I"⟩ "TraceAligner" ∈ lw_tbl := List.mem_of_getElem? (i := 346) rfl
set_option maxRecDepth 100000 in
theorem wn_5 : Jvm.Cond.methodLinkNest "TraceAligner$PathFinder" 118 ⟨"TraceAligner", "transitionOf", "(I)I"⟩ "TraceAligner" ∈ lw_tbl := List.mem_of_getElem? (i := 353) rfl
set_option maxRecDepth 100000 in
theorem wn_6 : Jvm.Cond.methodLinkNest "TraceAligner$PathFinder" 124 ⟨"TraceAligner", "labelOf", "(I)I"⟩ "TraceAligner" ∈ lw_tbl := List.mem_of_getElem? (i := 356) rfl
set_option maxRecDepth 100000 in
theorem wn_7 : Jvm.Cond.methodLinkNest "TraceAligner$Trace" 50 ⟨"TraceAligner", "labelOf", "(I)I"⟩ "TraceAligner" ∈ lw_tbl := List.mem_of_getElem? (i := 734) rfl
set_option maxRecDepth 100000 in
theorem wn_8 : Jvm.Cond.methodLinkNest "TraceAligner$Trace" 54 ⟨"TraceAligner", "transitionOf", "(I)I"⟩ "TraceAligner" ∈ lw_tbl := List.mem_of_getElem? (i := 735) rfl
set_option maxRecDepth 100000 in
theorem wn_9 : Jvm.Cond.methodLinkNest "TraceAligner$Trace" 57 ⟨"TraceAligner", "kindOf", "(I)I"⟩ "TraceAligner" ∈ lw_tbl := List.mem_of_getElem? (i := 736) rfl
set_option maxRecDepth 100000 in
theorem wn_10 : Jvm.Cond.methodLinkNest "TraceAligner$Trace" 60 ⟨"TraceAligner", "markingOf", "(I)I"⟩ "TraceAligner" ∈ lw_tbl := List.mem_of_getElem? (i := 759) rfl
theorem wn_all : ∀ q ∈ am_nst, Jvm.Cond.methodLinkNest q.1 q.2.1 q.2.2.1 q.2.2.2 ∈ lw_tbl := List.forall_mem_cons.mpr ⟨wn_0, List.forall_mem_cons.mpr ⟨wn_1, List.forall_mem_cons.mpr ⟨wn_2, List.forall_mem_cons.mpr ⟨wn_3, List.forall_mem_cons.mpr ⟨wn_4, List.forall_mem_cons.mpr ⟨wn_5, List.forall_mem_cons.mpr ⟨wn_6, List.forall_mem_cons.mpr ⟨wn_7, List.forall_mem_cons.mpr ⟨wn_8, List.forall_mem_cons.mpr ⟨wn_9, List.forall_mem_cons.mpr ⟨wn_10, fun _ h => absurd h List.not_mem_nil⟩⟩⟩⟩⟩⟩⟩⟩⟩⟩⟩
set_option maxRecDepth 100000 in
theorem wl_0 : Jvm.Cond.laysStatic "java/lang/Throwable" "UNASSIGNED_STACK" "[Ljava/lang/StackTraceElement;" ∈ lw_tbl := List.mem_of_getElem? (i := 394) rfl
set_option maxRecDepth 100000 in
theorem wl_1 : Jvm.Cond.laysStatic "java/lang/Throwable" "SUPPRESSED_SENTINEL" "Ljava/util/List;" ∈ lw_tbl := List.mem_of_getElem? (i := 396) rfl
set_option maxRecDepth 100000 in
theorem wt_ini : Jvm.Cond.initialized "java/lang/Throwable" ∈ lw_tbl := List.mem_of_getElem? (i := 42) rfl
set_option maxRecDepth 100000 in
theorem nq_arr : Jvm.Cond.arrayOf (.arg 0) .int ∈ flatC (Jvm.Cond.and given_1 narrow_1) := List.mem_of_getElem? (i := 2) rfl
set_option maxRecDepth 100000 in
theorem nq_cnt : Jvm.Cond.count 1 ∈ flatC (Jvm.Cond.and given_1 narrow_1) := List.mem_of_getElem? (i := 0) rfl
set_option maxRecDepth 100000 in
theorem nq_le : Jvm.Cond.le (.length (.arg 0)) (.int 5) ∈ flatC (Jvm.Cond.and given_1 narrow_1) := List.mem_of_getElem? (i := 3) rfl
set_option maxRecDepth 100000 in
theorem nq_is0 : Jvm.Cond.isRef (.static "java/lang/Throwable" "UNASSIGNED_STACK" "[Ljava/lang/StackTraceElement;") ∈ flatC (Jvm.Cond.and given_1 narrow_1) := List.mem_of_getElem? (i := 4) rfl
set_option maxRecDepth 100000 in
theorem nq_is1 : Jvm.Cond.isRef (.static "java/lang/Throwable" "SUPPRESSED_SENTINEL" "Ljava/util/List;") ∈ flatC (Jvm.Cond.and given_1 narrow_1) := List.mem_of_getElem? (i := 5) rfl
set_option maxRecDepth 100000 in
theorem nq_nc0 : Jvm.Cond.not (.castable "java/lang/IndexOutOfBoundsException" "java/lang/IllegalStateException") ∈ flatC (Jvm.Cond.and given_1 narrow_1) := List.mem_of_getElem? (i := 13) rfl
set_option maxRecDepth 100000 in
theorem nq_nc1 : Jvm.Cond.not (.castable "java/lang/IllegalArgumentException" "java/lang/IndexOutOfBoundsException") ∈ flatC (Jvm.Cond.and given_1 narrow_1) := List.mem_of_getElem? (i := 29) rfl
set_option maxRecDepth 100000 in
theorem ws_0 : Jvm.Cond.stringRef "TraceAligner" 63 "there are 8 places" ∈ lw_tbl := List.mem_of_getElem? (i := 408) rfl
set_option maxRecDepth 100000 in
theorem nq_ex0 : Jvm.Cond.exactly (.string "TraceAligner" 63) "java/lang/String" ∈ flatC (Jvm.Cond.and given_1 narrow_1) := List.mem_of_getElem? (i := 30) rfl
set_option maxRecDepth 100000 in
theorem ws_1 : Jvm.Cond.stringRef "TraceAligner" 81 "the label is not -1 to 5" ∈ lw_tbl := List.mem_of_getElem? (i := 467) rfl
set_option maxRecDepth 100000 in
theorem nq_ex1 : Jvm.Cond.exactly (.string "TraceAligner" 81) "java/lang/String" ∈ flatC (Jvm.Cond.and given_1 narrow_1) := List.mem_of_getElem? (i := 52) rfl
set_option maxRecDepth 100000 in
theorem ws_2 : Jvm.Cond.stringRef "TraceAligner" 87 "there are 10 transitions" ∈ lw_tbl := List.mem_of_getElem? (i := 474) rfl
set_option maxRecDepth 100000 in
theorem nq_ex2 : Jvm.Cond.exactly (.string "TraceAligner" 87) "java/lang/String" ∈ flatC (Jvm.Cond.and given_1 narrow_1) := List.mem_of_getElem? (i := 81) rfl
set_option maxRecDepth 100000 in
theorem ws_3 : Jvm.Cond.stringRef "TraceAligner" 274 "there is no such transition" ∈ lw_tbl := List.mem_of_getElem? (i := 500) rfl
set_option maxRecDepth 100000 in
theorem nq_ex3 : Jvm.Cond.exactly (.string "TraceAligner" 274) "java/lang/String" ∈ flatC (Jvm.Cond.and given_1 narrow_1) := List.mem_of_getElem? (i := 111) rfl
set_option maxRecDepth 100000 in
theorem ws_4 : Jvm.Cond.stringRef "TraceAligner" 272 "there is no such place" ∈ lw_tbl := List.mem_of_getElem? (i := 511) rfl
set_option maxRecDepth 100000 in
theorem nq_ex4 : Jvm.Cond.exactly (.string "TraceAligner" 272) "java/lang/String" ∈ flatC (Jvm.Cond.and given_1 narrow_1) := List.mem_of_getElem? (i := 145) rfl
set_option maxRecDepth 100000 in
theorem ws_5 : Jvm.Cond.stringRef "TraceAligner" 110 "the number of tokens is not 0 to 3" ∈ lw_tbl := List.mem_of_getElem? (i := 520) rfl
set_option maxRecDepth 100000 in
theorem nq_ex5 : Jvm.Cond.exactly (.string "TraceAligner" 110) "java/lang/String" ∈ flatC (Jvm.Cond.and given_1 narrow_1) := List.mem_of_getElem? (i := 175) rfl
set_option maxRecDepth 100000 in
theorem ws_6 : Jvm.Cond.stringRef "TraceAligner" 123 "what is counted is not 0 to 2" ∈ lw_tbl := List.mem_of_getElem? (i := 528) rfl
set_option maxRecDepth 100000 in
theorem nq_ex6 : Jvm.Cond.exactly (.string "TraceAligner" 123) "java/lang/String" ∈ flatC (Jvm.Cond.and given_1 narrow_1) := List.mem_of_getElem? (i := 218) rfl
set_option maxRecDepth 100000 in
theorem ws_7 : Jvm.Cond.stringRef "TraceAligner" 276 "the net has too many markings" ∈ lw_tbl := List.mem_of_getElem? (i := 547) rfl
set_option maxRecDepth 100000 in
theorem nq_ex7 : Jvm.Cond.exactly (.string "TraceAligner" 276) "java/lang/String" ∈ flatC (Jvm.Cond.and given_1 narrow_1) := List.mem_of_getElem? (i := 257) rfl
set_option maxRecDepth 100000 in
theorem ws_8 : Jvm.Cond.stringRef "TraceAligner" 278 "there is no such marking" ∈ lw_tbl := List.mem_of_getElem? (i := 552) rfl
set_option maxRecDepth 100000 in
theorem nq_ex8 : Jvm.Cond.exactly (.string "TraceAligner" 278) "java/lang/String" ∈ flatC (Jvm.Cond.and given_1 narrow_1) := List.mem_of_getElem? (i := 297) rfl
set_option maxRecDepth 100000 in
theorem ws_9 : Jvm.Cond.stringRef "TraceAligner" 160 "the label is not 0 to 5" ∈ lw_tbl := List.mem_of_getElem? (i := 608) rfl
set_option maxRecDepth 100000 in
theorem nq_ex9 : Jvm.Cond.exactly (.string "TraceAligner" 160) "java/lang/String" ∈ flatC (Jvm.Cond.and given_1 narrow_1) := List.mem_of_getElem? (i := 333) rfl
set_option maxRecDepth 100000 in
theorem ws_10 : Jvm.Cond.stringRef "TraceAligner" 165 "there are 8 labels in the buffer" ∈ lw_tbl := List.mem_of_getElem? (i := 609) rfl
set_option maxRecDepth 100000 in
theorem nq_ex10 : Jvm.Cond.exactly (.string "TraceAligner" 165) "java/lang/String" ∈ flatC (Jvm.Cond.and given_1 narrow_1) := List.mem_of_getElem? (i := 369) rfl
set_option maxRecDepth 100000 in
theorem ws_11 : Jvm.Cond.stringRef "TraceAligner" 167 "the number of times is not 0 to 99" ∈ lw_tbl := List.mem_of_getElem? (i := 617) rfl
set_option maxRecDepth 100000 in
theorem nq_ex11 : Jvm.Cond.exactly (.string "TraceAligner" 167) "java/lang/String" ∈ flatC (Jvm.Cond.and given_1 narrow_1) := List.mem_of_getElem? (i := 415) rfl
set_option maxRecDepth 100000 in
theorem ws_12 : Jvm.Cond.stringRef "TraceAligner" 169 "there are 8 traces" ∈ lw_tbl := List.mem_of_getElem? (i := 618) rfl
set_option maxRecDepth 100000 in
theorem nq_ex12 : Jvm.Cond.exactly (.string "TraceAligner" 169) "java/lang/String" ∈ flatC (Jvm.Cond.and given_1 narrow_1) := List.mem_of_getElem? (i := 464) rfl
set_option maxRecDepth 100000 in
theorem ws_13 : Jvm.Cond.stringRef "TraceAligner" 175 "there is no trace" ∈ lw_tbl := List.mem_of_getElem? (i := 633) rfl
set_option maxRecDepth 100000 in
theorem nq_ex13 : Jvm.Cond.exactly (.string "TraceAligner" 175) "java/lang/String" ∈ flatC (Jvm.Cond.and given_1 narrow_1) := List.mem_of_getElem? (i := 498) rfl
set_option maxRecDepth 100000 in
theorem ws_14 : Jvm.Cond.stringRef "TraceAligner" 280 "there is no such trace" ∈ lw_tbl := List.mem_of_getElem? (i := 645) rfl
set_option maxRecDepth 100000 in
theorem nq_ex14 : Jvm.Cond.exactly (.string "TraceAligner" 280) "java/lang/String" ∈ flatC (Jvm.Cond.and given_1 narrow_1) := List.mem_of_getElem? (i := 532) rfl
set_option maxRecDepth 100000 in
theorem ws_15 : Jvm.Cond.stringRef "TraceAligner" 181 "there is no such label" ∈ lw_tbl := List.mem_of_getElem? (i := 653) rfl
set_option maxRecDepth 100000 in
theorem nq_ex15 : Jvm.Cond.exactly (.string "TraceAligner" 181) "java/lang/String" ∈ flatC (Jvm.Cond.and given_1 narrow_1) := List.mem_of_getElem? (i := 572) rfl
set_option maxRecDepth 100000 in
theorem ws_16 : Jvm.Cond.stringRef "TraceAligner" 282 "the cost is not 0 to 9" ∈ lw_tbl := List.mem_of_getElem? (i := 657) rfl
set_option maxRecDepth 100000 in
theorem nq_ex16 : Jvm.Cond.exactly (.string "TraceAligner" 282) "java/lang/String" ∈ flatC (Jvm.Cond.and given_1 narrow_1) := List.mem_of_getElem? (i := 613) rfl
set_option maxRecDepth 100000 in
theorem ws_17 : Jvm.Cond.stringRef "TraceAligner" 202 "there is no such move" ∈ lw_tbl := List.mem_of_getElem? (i := 690) rfl
set_option maxRecDepth 100000 in
theorem nq_ex17 : Jvm.Cond.exactly (.string "TraceAligner" 202) "java/lang/String" ∈ flatC (Jvm.Cond.and given_1 narrow_1) := List.mem_of_getElem? (i := 655) rfl
set_option maxRecDepth 100000 in
theorem ws_18 : Jvm.Cond.stringRef "TraceAligner" 219 "what is told is not 0 to 3" ∈ lw_tbl := List.mem_of_getElem? (i := 699) rfl
set_option maxRecDepth 100000 in
theorem nq_ex18 : Jvm.Cond.exactly (.string "TraceAligner" 219) "java/lang/String" ∈ flatC (Jvm.Cond.and given_1 narrow_1) := List.mem_of_getElem? (i := 697) rfl
set_option maxRecDepth 100000 in
theorem ws_19 : Jvm.Cond.stringRef "TraceAligner" 232 "the kind is not 0 to 2" ∈ lw_tbl := List.mem_of_getElem? (i := 728) rfl
set_option maxRecDepth 100000 in
theorem nq_ex19 : Jvm.Cond.exactly (.string "TraceAligner" 232) "java/lang/String" ∈ flatC (Jvm.Cond.and given_1 narrow_1) := List.mem_of_getElem? (i := 745) rfl
set_option maxRecDepth 100000 in
theorem ws_20 : Jvm.Cond.stringRef "TraceAligner" 234 "there is no such label or transition" ∈ lw_tbl := List.mem_of_getElem? (i := 729) rfl
set_option maxRecDepth 100000 in
theorem nq_ex20 : Jvm.Cond.exactly (.string "TraceAligner" 234) "java/lang/String" ∈ flatC (Jvm.Cond.and given_1 narrow_1) := List.mem_of_getElem? (i := 790) rfl
set_option maxRecDepth 100000 in
theorem wc_0 : Jvm.Cond.castable "java/lang/IllegalStateException" "java/lang/IllegalStateException" ∈ lw_tbl := List.mem_of_getElem? (i := 369) rfl
set_option maxRecDepth 100000 in
theorem wc_1 : Jvm.Cond.castable "java/lang/IllegalArgumentException" "java/lang/IllegalArgumentException" ∈ lw_tbl := List.mem_of_getElem? (i := 460) rfl
set_option maxRecDepth 100000 in
theorem wc_2 : Jvm.Cond.castable "java/lang/IndexOutOfBoundsException" "java/lang/IndexOutOfBoundsException" ∈ lw_tbl := List.mem_of_getElem? (i := 493) rfl
set_option maxRecDepth 100000 in
theorem wc_3 : Jvm.Cond.declares ⟨"java/lang/RuntimeException", "<init>", "()V"⟩ ∈ lw_tbl := List.mem_of_getElem? (i := 370) rfl
set_option maxRecDepth 100000 in
theorem wc_4 : Jvm.Cond.declares ⟨"java/lang/RuntimeException", "<init>", "(Ljava/lang/String;)V"⟩ ∈ lw_tbl := List.mem_of_getElem? (i := 371) rfl
set_option maxRecDepth 100000 in
theorem wc_5 : Jvm.Cond.declares ⟨"java/lang/Exception", "<init>", "()V"⟩ ∈ lw_tbl := List.mem_of_getElem? (i := 372) rfl
set_option maxRecDepth 100000 in
theorem wc_6 : Jvm.Cond.declares ⟨"java/lang/Exception", "<init>", "(Ljava/lang/String;)V"⟩ ∈ lw_tbl := List.mem_of_getElem? (i := 373) rfl
set_option maxRecDepth 100000 in
theorem wc_7 : Jvm.Cond.declares ⟨"java/lang/Throwable", "<init>", "()V"⟩ ∈ lw_tbl := List.mem_of_getElem? (i := 374) rfl
set_option maxRecDepth 100000 in
theorem wc_8 : Jvm.Cond.declares ⟨"java/lang/Throwable", "<init>", "(Ljava/lang/String;)V"⟩ ∈ lw_tbl := List.mem_of_getElem? (i := 375) rfl
theorem wc_all : ∀ w ∈ am_ws9, w ∈ lw_tbl := List.forall_mem_cons.mpr ⟨wc_0, List.forall_mem_cons.mpr ⟨wc_1, List.forall_mem_cons.mpr ⟨wc_2, List.forall_mem_cons.mpr ⟨wc_3, List.forall_mem_cons.mpr ⟨wc_4, List.forall_mem_cons.mpr ⟨wc_5, List.forall_mem_cons.mpr ⟨wc_6, List.forall_mem_cons.mpr ⟨wc_7, List.forall_mem_cons.mpr ⟨wc_8, fun _ h => absurd h List.not_mem_nil⟩⟩⟩⟩⟩⟩⟩⟩⟩
theorem st_of {own tx : String} {k : Nat} {args : Array Value} {s : State} (h1 : (Cond.stringRef own k tx).before args s = true) (h2 : (Cond.exactly (.string own k) "java/lang/String").before args s = true) : ∃ sa, vk_R own k tx sa s := by
  obtain ⟨a, c, cA, kA, q1, -⟩ := Cond.exactly_spec (args := args) (first := s) (o := none) (s := s) (idx := []) (t := Term.string own k) (cls := "java/lang/String") h2
  exact ⟨a, vk_R.of h1 q1⟩
theorem am_V_start {s : State} {args : Array Value} (hts : ∀ w ∈ lw_tbl, w.before args s = true) (hgv : (Jvm.Cond.and given_1 narrow_1).before args s = true) : am_V s.heap.size s := by
  have hs := flat_of_before _ hgv
  have hA : ∀ a : Nat, a < s.heap.size → ¬ s.heap.size ≤ a := fun a h => Nat.not_le_of_lt h
  refine ⟨vx_Zqof (hts _ wl_0) (hts _ wt_ini) (hs _ nq_is0) hA, vx_Zqof (hts _ wl_1) (hts _ wt_ini) (hs _ nq_is1) hA, ?_, ?_, fun w hw => va_Nw.of (am_ws9_on w hw) (hts w (wc_all w hw))⟩
  · exact List.forall_mem_cons.mpr ⟨st_of (hts _ ws_0) (hs _ nq_ex0), List.forall_mem_cons.mpr ⟨st_of (hts _ ws_1) (hs _ nq_ex1), List.forall_mem_cons.mpr ⟨st_of (hts _ ws_2) (hs _ nq_ex2), List.forall_mem_cons.mpr ⟨st_of (hts _ ws_3) (hs _ nq_ex3), List.forall_mem_cons.mpr ⟨st_of (hts _ ws_4) (hs _ nq_ex4), List.forall_mem_cons.mpr ⟨st_of (hts _ ws_5) (hs _ nq_ex5), List.forall_mem_cons.mpr ⟨st_of (hts _ ws_6) (hs _ nq_ex6), List.forall_mem_cons.mpr ⟨st_of (hts _ ws_7) (hs _ nq_ex7), List.forall_mem_cons.mpr ⟨st_of (hts _ ws_8) (hs _ nq_ex8), List.forall_mem_cons.mpr ⟨st_of (hts _ ws_9) (hs _ nq_ex9), List.forall_mem_cons.mpr ⟨st_of (hts _ ws_10) (hs _ nq_ex10), List.forall_mem_cons.mpr ⟨st_of (hts _ ws_11) (hs _ nq_ex11), List.forall_mem_cons.mpr ⟨st_of (hts _ ws_12) (hs _ nq_ex12), List.forall_mem_cons.mpr ⟨st_of (hts _ ws_13) (hs _ nq_ex13), List.forall_mem_cons.mpr ⟨st_of (hts _ ws_14) (hs _ nq_ex14), List.forall_mem_cons.mpr ⟨st_of (hts _ ws_15) (hs _ nq_ex15), List.forall_mem_cons.mpr ⟨st_of (hts _ ws_16) (hs _ nq_ex16), List.forall_mem_cons.mpr ⟨st_of (hts _ ws_17) (hs _ nq_ex17), List.forall_mem_cons.mpr ⟨st_of (hts _ ws_18) (hs _ nq_ex18), List.forall_mem_cons.mpr ⟨st_of (hts _ ws_19) (hs _ nq_ex19), List.forall_mem_cons.mpr ⟨st_of (hts _ ws_20) (hs _ nq_ex20), fun _ h => absurd h List.not_mem_nil⟩⟩⟩⟩⟩⟩⟩⟩⟩⟩⟩⟩⟩⟩⟩⟩⟩⟩⟩⟩⟩
  · exact List.forall_mem_cons.mpr ⟨va_Nc.of (hs _ nq_nc0), List.forall_mem_cons.mpr ⟨va_Nc.of (hs _ nq_nc1), fun _ h => absurd h List.not_mem_nil⟩⟩
theorem arr_of {s : State} {c : ClassId} {k : Class} {comp : ClassId} {ty : FieldType} (h1 : s.vm.classes[c]? = some k) (h2 : k.kind = .array comp ty) : ArrOfT s c ty := fun n z => ⟨(fun _ h => by cases h), k, h1, comp, h2⟩
theorem am_K_start {s : State} {args : Array Value} (hts : ∀ w ∈ lw_tbl, w.before args s = true) : ∃ (D : va_G) (cA : Nat → ClassId), am_K D am_cl cA am_tys s := by
  have hbig : ∀ w ∈ am_big, w.before args s = true := fun w hw => hts w (am_big_in w hw)
  have cls : ∀ (c : Nat) (q : vw_C), am_cl[c]? = some q → Jvm.Cond.instantiable q.1 q.2.2 ∈ am_big → ∃ (cC : ClassId) (iS : Nat → Nat), u_Kn s q.1 q.2.1 q.2.2 cC iS := fun c q hq hi =>
    u_known hbig (am_cl_ok q (List.mem_of_getElem? hq)).1 (hbig _ hi)
  obtain ⟨c0, i0, k0⟩ := cls 0 _ rfl wi_0
  obtain ⟨c1, i1, k1⟩ := cls 1 _ rfl wi_1
  obtain ⟨c2, i2, k2⟩ := cls 2 _ rfl wi_2
  obtain ⟨c3, i3, k3⟩ := cls 3 _ rfl wi_3
  obtain ⟨c4, i4, k4⟩ := cls 4 _ rfl wi_4
  obtain ⟨c5, i5, k5⟩ := cls 5 _ rfl wi_5
  obtain ⟨aI, kI, compI, hI1, hI2, hI3⟩ := Cond.arrayClass_spec (hbig _ aw_int)
  obtain ⟨aZ, kZ, compZ, hZ1, hZ2, hZ3⟩ := Cond.arrayClass_spec (hbig _ aw_boolean)
  obtain ⟨aJ, kJ, compJ, hJ1, hJ2, hJ3⟩ := Cond.arrayClass_spec (hbig _ aw_long)
  obtain ⟨aD, kD, compD, hD1, hD2, hD3⟩ := Cond.arrayClass_spec (hbig _ aw_double)
  obtain ⟨compT, aT, kT, hT1, -, hT3, hT4, hT5⟩ := Cond.arrayOver_spec (hts _ wo_T)
  have hA0 : (Jvm.Cond.arrayOver (.array .int)).before #[] s = true := hts _ wo_A
  obtain ⟨compA, aA, kA, hA1, -, hA3, hA4, hA5⟩ := am_AOA_spec hA0
  refine ⟨(fun c => match c with | 0 => c0 | 1 => c1 | 2 => c2 | 3 => c3 | 4 => c4 | _ => c5, fun c => match c with | 0 => i0 | 1 => i1 | 2 => i2 | 3 => i3 | 4 => i4 | _ => i5), fun t => match t with | 0 => aI | 1 => aZ | 2 => aJ | 3 => aD | 4 => aT | _ => aA, ?_, ?_, fun q hq => va_Nw.of rfl (hts _ (wn_all q hq)), va_AO.of (hts _ wo_T), hA0⟩
  · intro c q hq
    match c, hq with
    | 0, hq => cases hq; exact k0
    | 1, hq => cases hq; exact k1
    | 2, hq => cases hq; exact k2
    | 3, hq => cases hq; exact k3
    | 4, hq => cases hq; exact k4
    | 5, hq => cases hq; exact k5
    | c + 6, hq => simp at hq
  · intro t ty ht ho
    match t, ht, ho with
    | 0, ht, _ => cases ht; exact ⟨arr_of hI2 hI3, hI1⟩
    | 1, ht, _ => cases ht; exact ⟨arr_of hZ2 hZ3, hZ1⟩
    | 2, ht, _ => cases ht; exact ⟨arr_of hJ2 hJ3, hJ1⟩
    | 3, ht, _ => cases ht; exact ⟨arr_of hD2 hD3, hD1⟩
    | 4, ht, _ => cases ht; exact ⟨arr_of hT3 hT4, kT, compT, hT3, hT4, hT1, hT5⟩
    | 5, ht, _ => cases ht; exact ⟨arr_of hA3 hA4, hA5⟩
    | t + 6, ht, _ => simp [am_tys] at ht
