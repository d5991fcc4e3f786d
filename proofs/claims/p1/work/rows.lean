section
/-- which kinds of rows (01, 03) this claim's tables speak of -/
def am_on : Nat → Bool := fun _ => true
/-- the calls of nest mates: class, pool index, method, host -/
def am_nst : List (String × Nat × MethodName × String) := [("TraceAligner", 9, ⟨"TraceAligner$Net", "<init>", "()V"⟩, "TraceAligner"), ("TraceAligner", 53, ⟨"TraceAligner$Trace", "<init>", "()V"⟩, "TraceAligner"), ("TraceAligner$Net", 37, ⟨"TraceAligner", "isIn", "(II)Z"⟩, "TraceAligner"), ("TraceAligner$Net", 41, ⟨"TraceAligner", "tokensIn", "(II)I"⟩, "TraceAligner"), ("TraceAligner$PathFinder", 127, ⟨"TraceAligner", "packMove", "(IIII)I"⟩, "TraceAligner"), ("TraceAligner$PathFinder", 118, ⟨"TraceAligner", "transitionOf", "(I)I"⟩, "TraceAligner"), ("TraceAligner$PathFinder", 124, ⟨"TraceAligner", "labelOf", "(I)I"⟩, "TraceAligner"), ("TraceAligner$Trace", 50, ⟨"TraceAligner", "labelOf", "(I)I"⟩, "TraceAligner"), ("TraceAligner$Trace", 54, ⟨"TraceAligner", "transitionOf", "(I)I"⟩, "TraceAligner"), ("TraceAligner$Trace", 57, ⟨"TraceAligner", "kindOf", "(I)I"⟩, "TraceAligner"), ("TraceAligner$Trace", 60, ⟨"TraceAligner", "markingOf", "(I)I"⟩, "TraceAligner")]
/-- texts of throws: class, pool index, text -/
def am_str : List (String × Nat × String) := [("TraceAligner", 63, "there are 8 places"), ("TraceAligner", 81, "the label is not -1 to 5"), ("TraceAligner", 87, "there are 10 transitions"), ("TraceAligner", 274, "there is no such transition"), ("TraceAligner", 272, "there is no such place"), ("TraceAligner", 110, "the number of tokens is not 0 to 3"), ("TraceAligner", 123, "what is counted is not 0 to 2"), ("TraceAligner", 276, "the net has too many markings"), ("TraceAligner", 278, "there is no such marking"), ("TraceAligner", 160, "the label is not 0 to 5"), ("TraceAligner", 165, "there are 8 labels in the buffer"), ("TraceAligner", 167, "the number of times is not 0 to 99"), ("TraceAligner", 169, "there are 8 traces"), ("TraceAligner", 175, "there is no trace"), ("TraceAligner", 280, "there is no such trace"), ("TraceAligner", 181, "there is no such label"), ("TraceAligner", 282, "the cost is not 0 to 9"), ("TraceAligner", 202, "there is no such move"), ("TraceAligner", 219, "what is told is not 0 to 3"), ("TraceAligner", 232, "the kind is not 0 to 2"), ("TraceAligner", 234, "there is no such label or transition")]
/-- of these the first is no kind of the second -/
def am_ncs : List (String × String) := [("java/lang/IndexOutOfBoundsException", "java/lang/IllegalStateException"), ("java/lang/IllegalArgumentException", "java/lang/IndexOutOfBoundsException")]
end
section
-- ===== PART A: goes FIRST, ahead of the names: the tables' words, and 'selects' of the private methods out of them =====
/-- a private method of a class that the tables say can be made, by its rows of tables_1 -/
def lw_okq (q : MethodName × Nat) : Prop := (q.1.cls ≠ "java/lang/invoke/MethodHandle" ∧ q.1.cls ≠ "java/lang/invoke/VarHandle") ∧ Cond.instantiable q.1.cls q.2 ∈ tables_1 ∧ Cond.privateMethod q.1 ∈ tables_1 ∧ Cond.instanceMethod q.1 ∈ tables_1
theorem lw_p0 : lw_okq (⟨"TraceAligner", "digestOfNet", "(J)J"⟩, 9) := ⟨⟨by decide +kernel, by decide +kernel⟩, List.mem_of_getElem? (i := 18) (by decide +kernel), List.mem_of_getElem? (i := 248) (by decide +kernel), List.mem_of_getElem? (i := 249) (by decide +kernel)⟩
theorem lw_p1 : lw_okq (⟨"TraceAligner", "digestOfTraces", "(J)J"⟩, 9) := ⟨⟨by decide +kernel, by decide +kernel⟩, List.mem_of_getElem? (i := 18) (by decide +kernel), List.mem_of_getElem? (i := 253) (by decide +kernel), List.mem_of_getElem? (i := 254) (by decide +kernel)⟩
theorem lw_p2 : lw_okq (⟨"java/lang/Throwable", "fillInStackTrace", "(I)Ljava/lang/Throwable;"⟩, 6) := ⟨⟨by decide +kernel, by decide +kernel⟩, List.mem_of_getElem? (i := 372) (by decide +kernel), List.mem_of_getElem? (i := 370) (by decide +kernel), List.mem_of_getElem? (i := 371) (by decide +kernel)⟩
theorem lw_p3 : lw_okq (⟨"TraceAligner", "forgetMarkings", "()V"⟩, 9) := ⟨⟨by decide +kernel, by decide +kernel⟩, List.mem_of_getElem? (i := 18) (by decide +kernel), List.mem_of_getElem? (i := 402) (by decide +kernel), List.mem_of_getElem? (i := 403) (by decide +kernel)⟩
theorem lw_p4 : lw_okq (⟨"TraceAligner", "forgetAlignments", "()V"⟩, 9) := ⟨⟨by decide +kernel, by decide +kernel⟩, List.mem_of_getElem? (i := 18) (by decide +kernel), List.mem_of_getElem? (i := 406) (by decide +kernel), List.mem_of_getElem? (i := 407) (by decide +kernel)⟩
theorem lw_p5 : lw_okq (⟨"TraceAligner", "requireTransition", "(I)V"⟩, 9) := ⟨⟨by decide +kernel, by decide +kernel⟩, List.mem_of_getElem? (i := 18) (by decide +kernel), List.mem_of_getElem? (i := 454) (by decide +kernel), List.mem_of_getElem? (i := 455) (by decide +kernel)⟩
theorem lw_p6 : lw_okq (⟨"TraceAligner", "requirePlace", "(I)V"⟩, 9) := ⟨⟨by decide +kernel, by decide +kernel⟩, List.mem_of_getElem? (i := 18) (by decide +kernel), List.mem_of_getElem? (i := 474) (by decide +kernel), List.mem_of_getElem? (i := 475) (by decide +kernel)⟩
theorem lw_p7 : lw_okq (⟨"TraceAligner", "requireMarkings", "()V"⟩, 9) := ⟨⟨by decide +kernel, by decide +kernel⟩, List.mem_of_getElem? (i := 18) (by decide +kernel), List.mem_of_getElem? (i := 510) (by decide +kernel), List.mem_of_getElem? (i := 511) (by decide +kernel)⟩
theorem lw_p8 : lw_okq (⟨"TraceAligner", "requireMarking", "(I)V"⟩, 9) := ⟨⟨by decide +kernel, by decide +kernel⟩, List.mem_of_getElem? (i := 18) (by decide +kernel), List.mem_of_getElem? (i := 515) (by decide +kernel), List.mem_of_getElem? (i := 516) (by decide +kernel)⟩
theorem lw_p9 : lw_okq (⟨"TraceAligner", "requireTrace", "(I)V"⟩, 9) := ⟨⟨by decide +kernel, by decide +kernel⟩, List.mem_of_getElem? (i := 18) (by decide +kernel), List.mem_of_getElem? (i := 608) (by decide +kernel), List.mem_of_getElem? (i := 609) (by decide +kernel)⟩
theorem lw_p10 : lw_okq (⟨"TraceAligner", "alignedTrace", "(I)LTraceAligner$Trace;"⟩, 9) := ⟨⟨by decide +kernel, by decide +kernel⟩, List.mem_of_getElem? (i := 18) (by decide +kernel), List.mem_of_getElem? (i := 639) (by decide +kernel), List.mem_of_getElem? (i := 640) (by decide +kernel)⟩
theorem lw_p11 : lw_okq (⟨"TraceAligner", "collectFired", "()V"⟩, 9) := ⟨⟨by decide +kernel, by decide +kernel⟩, List.mem_of_getElem? (i := 18) (by decide +kernel), List.mem_of_getElem? (i := 718) (by decide +kernel), List.mem_of_getElem? (i := 719) (by decide +kernel)⟩
theorem lw_p12 : lw_okq (⟨"TraceAligner", "visitedSize", "(LTraceAligner$Trace;[I)I"⟩, 9) := ⟨⟨by decide +kernel, by decide +kernel⟩, List.mem_of_getElem? (i := 18) (by decide +kernel), List.mem_of_getElem? (i := 727) (by decide +kernel), List.mem_of_getElem? (i := 728) (by decide +kernel)⟩
theorem lw_p13 : lw_okq (⟨"TraceAlignerModel", "no", "(I)I"⟩, 29) := ⟨⟨by decide +kernel, by decide +kernel⟩, List.mem_of_getElem? (i := 737) (by decide +kernel), List.mem_of_getElem? (i := 839) (by decide +kernel), List.mem_of_getElem? (i := 840) (by decide +kernel)⟩
theorem lw_p14 : lw_okq (⟨"TraceAlignerModel", "isTransition", "(I)Z"⟩, 29) := ⟨⟨by decide +kernel, by decide +kernel⟩, List.mem_of_getElem? (i := 737) (by decide +kernel), List.mem_of_getElem? (i := 857) (by decide +kernel), List.mem_of_getElem? (i := 858) (by decide +kernel)⟩
theorem lw_p15 : lw_okq (⟨"TraceAlignerModel", "isPlace", "(I)Z"⟩, 29) := ⟨⟨by decide +kernel, by decide +kernel⟩, List.mem_of_getElem? (i := 737) (by decide +kernel), List.mem_of_getElem? (i := 861) (by decide +kernel), List.mem_of_getElem? (i := 862) (by decide +kernel)⟩
def lw_privs_1 : List (MethodName × Nat) := [(⟨"TraceAligner", "digestOfNet", "(J)J"⟩, 9), (⟨"TraceAligner", "digestOfTraces", "(J)J"⟩, 9), (⟨"java/lang/Throwable", "fillInStackTrace", "(I)Ljava/lang/Throwable;"⟩, 6), (⟨"TraceAligner", "forgetMarkings", "()V"⟩, 9), (⟨"TraceAligner", "forgetAlignments", "()V"⟩, 9), (⟨"TraceAligner", "requireTransition", "(I)V"⟩, 9), (⟨"TraceAligner", "requirePlace", "(I)V"⟩, 9), (⟨"TraceAligner", "requireMarkings", "()V"⟩, 9), (⟨"TraceAligner", "requireMarking", "(I)V"⟩, 9), (⟨"TraceAligner", "requireTrace", "(I)V"⟩, 9), (⟨"TraceAligner", "alignedTrace", "(I)LTraceAligner$Trace;"⟩, 9), (⟨"TraceAligner", "collectFired", "()V"⟩, 9), (⟨"TraceAligner", "visitedSize", "(LTraceAligner$Trace;[I)I"⟩, 9), (⟨"TraceAlignerModel", "no", "(I)I"⟩, 29), (⟨"TraceAlignerModel", "isTransition", "(I)Z"⟩, 29), (⟨"TraceAlignerModel", "isPlace", "(I)Z"⟩, 29)]
theorem lw_r1 : ∀ q ∈ lw_privs_1, lw_okq q := List.forall_mem_cons.mpr ⟨lw_p0, List.forall_mem_cons.mpr ⟨lw_p1, List.forall_mem_cons.mpr ⟨lw_p2, List.forall_mem_cons.mpr ⟨lw_p3, List.forall_mem_cons.mpr ⟨lw_p4, List.forall_mem_cons.mpr ⟨lw_p5, List.forall_mem_cons.mpr ⟨lw_p6, List.forall_mem_cons.mpr ⟨lw_p7, List.forall_mem_cons.mpr ⟨lw_p8, List.forall_mem_cons.mpr ⟨lw_p9, List.forall_mem_cons.mpr ⟨lw_p10, List.forall_mem_cons.mpr ⟨lw_p11, List.forall_mem_cons.mpr ⟨lw_p12, List.forall_mem_cons.mpr ⟨lw_p13, List.forall_mem_cons.mpr ⟨lw_p14, List.forall_mem_cons.mpr ⟨lw_p15, fun _ h => absurd h List.not_mem_nil⟩⟩⟩⟩⟩⟩⟩⟩⟩⟩⟩⟩⟩⟩⟩⟩
theorem lw_p16 : lw_okq (⟨"TraceAlignerModel", "look", "()V"⟩, 29) := ⟨⟨by decide +kernel, by decide +kernel⟩, List.mem_of_getElem? (i := 737) (by decide +kernel), List.mem_of_getElem? (i := 887) (by decide +kernel), List.mem_of_getElem? (i := 888) (by decide +kernel)⟩
theorem lw_p17 : lw_okq (⟨"TraceAlignerModel", "fire", "(II)I"⟩, 29) := ⟨⟨by decide +kernel, by decide +kernel⟩, List.mem_of_getElem? (i := 737) (by decide +kernel), List.mem_of_getElem? (i := 891) (by decide +kernel), List.mem_of_getElem? (i := 892) (by decide +kernel)⟩
theorem lw_p18 : lw_okq (⟨"TraceAlignerModel", "numberOf", "(I)I"⟩, 29) := ⟨⟨by decide +kernel, by decide +kernel⟩, List.mem_of_getElem? (i := 737) (by decide +kernel), List.mem_of_getElem? (i := 895) (by decide +kernel), List.mem_of_getElem? (i := 896) (by decide +kernel)⟩
theorem lw_p19 : lw_okq (⟨"TraceAlignerModel", "asks", "(I)Z"⟩, 29) := ⟨⟨by decide +kernel, by decide +kernel⟩, List.mem_of_getElem? (i := 737) (by decide +kernel), List.mem_of_getElem? (i := 903) (by decide +kernel), List.mem_of_getElem? (i := 904) (by decide +kernel)⟩
theorem lw_p20 : lw_okq (⟨"TraceAlignerModel", "enabledIn", "(I)I"⟩, 29) := ⟨⟨by decide +kernel, by decide +kernel⟩, List.mem_of_getElem? (i := 737) (by decide +kernel), List.mem_of_getElem? (i := 911) (by decide +kernel), List.mem_of_getElem? (i := 912) (by decide +kernel)⟩
theorem lw_p21 : lw_okq (⟨"TraceAlignerModel", "isTrace", "(I)Z"⟩, 29) := ⟨⟨by decide +kernel, by decide +kernel⟩, List.mem_of_getElem? (i := 737) (by decide +kernel), List.mem_of_getElem? (i := 952) (by decide +kernel), List.mem_of_getElem? (i := 953) (by decide +kernel)⟩
theorem lw_p22 : lw_okq (⟨"TraceAlignerModel", "asksTrace", "(I)Z"⟩, 29) := ⟨⟨by decide +kernel, by decide +kernel⟩, List.mem_of_getElem? (i := 737) (by decide +kernel), List.mem_of_getElem? (i := 968) (by decide +kernel), List.mem_of_getElem? (i := 969) (by decide +kernel)⟩
theorem lw_p23 : lw_okq (⟨"TraceAlignerModel", "costOf", "(I)I"⟩, 29) := ⟨⟨by decide +kernel, by decide +kernel⟩, List.mem_of_getElem? (i := 737) (by decide +kernel), List.mem_of_getElem? (i := 972) (by decide +kernel), List.mem_of_getElem? (i := 973) (by decide +kernel)⟩
theorem lw_p24 : lw_okq (⟨"TraceAlignerModel", "weigh", "(II)V"⟩, 29) := ⟨⟨by decide +kernel, by decide +kernel⟩, List.mem_of_getElem? (i := 737) (by decide +kernel), List.mem_of_getElem? (i := 976) (by decide +kernel), List.mem_of_getElem? (i := 977) (by decide +kernel)⟩
theorem lw_p25 : lw_okq (⟨"TraceAlignerModel", "weightBy", "(IIII)I"⟩, 29) := ⟨⟨by decide +kernel, by decide +kernel⟩, List.mem_of_getElem? (i := 737) (by decide +kernel), List.mem_of_getElem? (i := 981) (by decide +kernel), List.mem_of_getElem? (i := 982) (by decide +kernel)⟩
theorem lw_p26 : lw_okq (⟨"TraceAlignerModel", "behind", "(IIII)I"⟩, 29) := ⟨⟨by decide +kernel, by decide +kernel⟩, List.mem_of_getElem? (i := 737) (by decide +kernel), List.mem_of_getElem? (i := 985) (by decide +kernel), List.mem_of_getElem? (i := 986) (by decide +kernel)⟩
theorem lw_p27 : lw_okq (⟨"TraceAlignerModel", "labelAt", "(I)I"⟩, 29) := ⟨⟨by decide +kernel, by decide +kernel⟩, List.mem_of_getElem? (i := 737) (by decide +kernel), List.mem_of_getElem? (i := 989) (by decide +kernel), List.mem_of_getElem? (i := 990) (by decide +kernel)⟩
theorem lw_p28 : lw_okq (⟨"TraceAlignerModel", "weightOf", "(III)I"⟩, 29) := ⟨⟨by decide +kernel, by decide +kernel⟩, List.mem_of_getElem? (i := 737) (by decide +kernel), List.mem_of_getElem? (i := 993) (by decide +kernel), List.mem_of_getElem? (i := 994) (by decide +kernel)⟩
theorem lw_p29 : lw_okq (⟨"TraceAlignerModel", "weightAt", "(II)I"⟩, 29) := ⟨⟨by decide +kernel, by decide +kernel⟩, List.mem_of_getElem? (i := 737) (by decide +kernel), List.mem_of_getElem? (i := 998) (by decide +kernel), List.mem_of_getElem? (i := 999) (by decide +kernel)⟩
theorem lw_p30 : lw_okq (⟨"TraceAlignerModel", "follow", "(I)I"⟩, 29) := ⟨⟨by decide +kernel, by decide +kernel⟩, List.mem_of_getElem? (i := 737) (by decide +kernel), List.mem_of_getElem? (i := 1006) (by decide +kernel), List.mem_of_getElem? (i := 1007) (by decide +kernel)⟩
theorem lw_p31 : lw_okq (⟨"TraceAlignerModel", "takesSome", "(I)Z"⟩, 29) := ⟨⟨by decide +kernel, by decide +kernel⟩, List.mem_of_getElem? (i := 737) (by decide +kernel), List.mem_of_getElem? (i := 1010) (by decide +kernel), List.mem_of_getElem? (i := 1011) (by decide +kernel)⟩
def lw_privs_2 : List (MethodName × Nat) := [(⟨"TraceAlignerModel", "look", "()V"⟩, 29), (⟨"TraceAlignerModel", "fire", "(II)I"⟩, 29), (⟨"TraceAlignerModel", "numberOf", "(I)I"⟩, 29), (⟨"TraceAlignerModel", "asks", "(I)Z"⟩, 29), (⟨"TraceAlignerModel", "enabledIn", "(I)I"⟩, 29), (⟨"TraceAlignerModel", "isTrace", "(I)Z"⟩, 29), (⟨"TraceAlignerModel", "asksTrace", "(I)Z"⟩, 29), (⟨"TraceAlignerModel", "costOf", "(I)I"⟩, 29), (⟨"TraceAlignerModel", "weigh", "(II)V"⟩, 29), (⟨"TraceAlignerModel", "weightBy", "(IIII)I"⟩, 29), (⟨"TraceAlignerModel", "behind", "(IIII)I"⟩, 29), (⟨"TraceAlignerModel", "labelAt", "(I)I"⟩, 29), (⟨"TraceAlignerModel", "weightOf", "(III)I"⟩, 29), (⟨"TraceAlignerModel", "weightAt", "(II)I"⟩, 29), (⟨"TraceAlignerModel", "follow", "(I)I"⟩, 29), (⟨"TraceAlignerModel", "takesSome", "(I)Z"⟩, 29)]
theorem lw_r2 : ∀ q ∈ lw_privs_2, lw_okq q := List.forall_mem_cons.mpr ⟨lw_p16, List.forall_mem_cons.mpr ⟨lw_p17, List.forall_mem_cons.mpr ⟨lw_p18, List.forall_mem_cons.mpr ⟨lw_p19, List.forall_mem_cons.mpr ⟨lw_p20, List.forall_mem_cons.mpr ⟨lw_p21, List.forall_mem_cons.mpr ⟨lw_p22, List.forall_mem_cons.mpr ⟨lw_p23, List.forall_mem_cons.mpr ⟨lw_p24, List.forall_mem_cons.mpr ⟨lw_p25, List.forall_mem_cons.mpr ⟨lw_p26, List.forall_mem_cons.mpr ⟨lw_p27, List.forall_mem_cons.mpr ⟨lw_p28, List.forall_mem_cons.mpr ⟨lw_p29, List.forall_mem_cons.mpr ⟨lw_p30, List.forall_mem_cons.mpr ⟨lw_p31, fun _ h => absurd h List.not_mem_nil⟩⟩⟩⟩⟩⟩⟩⟩⟩⟩⟩⟩⟩⟩⟩⟩
theorem lw_p32 : lw_okq (⟨"TraceAlignerModel", "takes", "(II)Z"⟩, 29) := ⟨⟨by decide +kernel, by decide +kernel⟩, List.mem_of_getElem? (i := 737) (by decide +kernel), List.mem_of_getElem? (i := 1014) (by decide +kernel), List.mem_of_getElem? (i := 1015) (by decide +kernel)⟩
theorem lw_p33 : lw_okq (⟨"TraceAlignerModel", "worstOf", "(I)I"⟩, 29) := ⟨⟨by decide +kernel, by decide +kernel⟩, List.mem_of_getElem? (i := 737) (by decide +kernel), List.mem_of_getElem? (i := 1026) (by decide +kernel), List.mem_of_getElem? (i := 1027) (by decide +kernel)⟩
def lw_privs_3 : List (MethodName × Nat) := [(⟨"TraceAlignerModel", "takes", "(II)Z"⟩, 29), (⟨"TraceAlignerModel", "worstOf", "(I)I"⟩, 29)]
theorem lw_r3 : ∀ q ∈ lw_privs_3, lw_okq q := List.forall_mem_cons.mpr ⟨lw_p32, List.forall_mem_cons.mpr ⟨lw_p33, fun _ h => absurd h List.not_mem_nil⟩⟩
def lw_privs : List (MethodName × Nat) := lw_privs_1 ++ (lw_privs_2 ++ (lw_privs_3))
def lw_tbl : List Cond := k2_sels lw_privs ++ tables_1
theorem lw_privs_ok : ∀ q ∈ lw_privs, lw_okq q := by
  show ∀ q ∈ lw_privs_1 ++ (lw_privs_2 ++ (lw_privs_3)), lw_okq q
  exact List.forall_mem_append.mpr ⟨lw_r1, List.forall_mem_append.mpr ⟨lw_r2, lw_r3⟩⟩
/-- the streams that the claim lets the run draw from -/
abbrev lw_cs : List Choice := [Jvm.Choice.named "NaN.bits"]
theorem lw_bits : nanBits ∈ lw_cs := by first | decide | exact List.mem_cons_self | simp [lw_cs, nanBits]
end
section
/-! ===== BEGIN words of one list among another's, by their places ===== -/
theorem goodIn_r {big : List Cond} (ws : List Cond) (ps : List Nat) (hp : ws = ps.filterMap (fun i => big[i]?)) (h : ws.all goodWord = true) : GoodIn big ws := by
  intro w hw
  have h1 := List.all_eq_true.mp h w hw
  rw [hp] at hw
  obtain ⟨i, -, hi⟩ := List.mem_filterMap.mp hw
  have hm : w ∈ big := by first | exact List.mem_of_getElem? hi | exact List.getElem?_mem hi
  exact ⟨hm, good_of_word h1⟩
theorem goodIn_app {big a b : List Cond} (ha : GoodIn big a) (hb : GoodIn big b) : GoodIn big (a ++ b) := fun w h => (List.mem_append.mp h).elim (ha w) (hb w)
theorem goodIn_ca {big a b : List Cond} {c : Cond} (ha : GoodIn big (c :: a)) (hb : GoodIn big b) : GoodIn big (c :: (a ++ b)) := fun w h => (List.mem_cons.mp h).elim (fun e => ha w (List.mem_cons.mpr (Or.inl e))) (fun h => (List.mem_append.mp h).elim (fun h => ha w (List.mem_cons.mpr (Or.inr h))) (hb w))
theorem goodIn_sub {big ws : List Cond} (hm : ∀ w ∈ ws, w ∈ big) (h : ws.all goodWord = true) : GoodIn big ws := fun w hw => ⟨hm w hw, good_of_word (List.all_eq_true.mp h w hw)⟩
/-! ===== END ===== -/
/-! ===== BEGIN exceptions that leave a method, and their catching by the caller (launches without stack traces) ===== -/
section VXA
/-! The laws vx_back, vx_callV, vx_callS, vx_callSW, vx_throw0, vx_throwS follow proofs of the library, with one case more: JvmDerived/Free/Laws.lean (Back.of_free), Shelf42/LK1.lean (callV, callS), Shelf/KitTraced.lean (throwNew0V, throwNewS). -/
/-- where a method has thrown q: the class by its name, the cell, what was written, the world -/
def vx_T (XC : String → State → State → Prop) (st : State) (q : Addr) (t : State) (mc ms : Nat) (free : Addr → Prop) : Prop :=
  ∃ (E : String) (ce : Cell) (L : List Loc), XC E st t ∧ t.heap[q]? = some ce ∧ ce.vm = .none ∧ st.vm.findClass E = some ce.cls ∧ st.WarmedH t.vm ∧ st.sameButNew ({ t with vm := st.vm } : State) L mc ms ∧ ∀ z ∈ L, free z.base
def vx_Q (Qc : Array Value → State → Outcome → State → Prop) (XC : String → State → State → Prop) (mc ms : Nat) (free : Addr → Prop) : Array Value → State → Outcome → State → Prop := fun a st o t =>
  (Qc a st o t ∧ ∃ L, FrameEnd st o t L mc ms ∧ ∀ q ∈ L, free q.base) ∨ ∃ q, o = .threw q ∧ vx_T XC st q t mc ms free
/-- a callee that returns or throws -/
def vx_Met (l : Launch) (y : MethodName) (ws : List Cond) (rm : Room) (Pc : Array Value → State → Prop) (Qc : Array Value → State → Outcome → State → Prop) (XC : String → State → State → Prop) (mc ms : Nat) (free : Addr → Prop) : Prop :=
  MetFree l y (headSpec ws rm) Pc (fun _ _ _ _ _ => True) (vx_Q Qc XC mc ms free)
def vx_Post (XC : String → State → State → Prop) (mc ms : Nat) (free : Addr → Prop) : Pt → Array Value → Addr → Pt → Prop := fun A a q B =>
  ∃ (g : JFrame) (mk : MethodId) (t : State) (L : List Loc) (E : String) (ce : Cell), B.U.heap = t.heap ∧ B.U.vm = t.vm ∧ XC E (A.U.calling g mk a) t ∧ t.heap[q]? = some ce ∧ ce.vm = .none ∧ A.U.vm.findClass E = some ce.cls ∧ B.locs = A.locs ++ L ∧ (∀ z ∈ L, free z.base) ∧ B.cells = A.cells + mc ∧ B.slots = A.slots + ms
def vx_Back (l : Launch) (R : Room) (p : Program) (e : Env) (below : List Frame) (s : State) (sargs : Array Value) (y : MethodName) (len W9 : Nat)
    (Pre : Pt → Array Value → Prop) (Post : Pt → Array Value → Option Value → Pt → Prop) (PostX : Pt → Array Value → Addr → Pt → Prop) : Prop :=
  ∀ (m : MethodId) (meth : Method) (c : Code) (A : Pt) (g : JFrame) (ig : Instr) (mk : MethodId) (a : Array Value),
    Stand p l e R s m sargs below meth c A.U A.locs A.cells A.slots → g.method = m → g.locals.size = c.maxLocals → decode c.code g.pc = .ok (ig, len) →
    2 * g.monitorRoom + (g.stack.map fun v => v.category).sum ≤ W9 → A.U.methodNamed? y = some mk → Pre A a →
    (∃ (v : Option Value) (B : Pt), Stand p l e R s m sargs below meth c B.U B.locs B.cells B.slots ∧ Post A a v B ∧
      Steps p.tables e below (doInvoke e (A.U.setTop g) [] mk a).1 (B.U.setTop { g with pc := g.pc + len, stack := v.toList ++ g.stack })) ∨
    (∃ (q : Addr) (B : Pt), Stand p l e R s m sargs below meth c B.U B.locs B.cells B.slots ∧ PostX A a q B ∧
      Steps p.tables e below (doInvoke e (A.U.setTop g) [] mk a).1 ((B.U.setTop g).pushFrame (.throwing q)))
section Payer
variable {l : Launch} {R : Room} {p : Program} {e : Env} {below : List Frame} {s : State} {sargs : Array Value} {y : MethodName} {len W9 : Nat}
theorem vx_back {ws : List Cond} {rm : Room} {Pc : Array Value → State → Prop} {Qc : Array Value → State → Outcome → State → Prop} {XC : String → State → State → Prop} {mc ms : Nat} {free : Addr → Prop} {bytes : ByteArray} {maxL : Nat} {ret : Option FieldType}
    (hM : vx_Met l y ws rm Pc Qc XC mc ms free) (hblind : FrameBlind Pc) (hrc : rm.cells = mc) (hrs : rm.slots = ms)
    (hframes : rm.frames + 1 ≤ R.frames) (hlocals : W9 + (maxL + 11) + rm.locals ≤ R.locals)
    (hws : ∀ w ∈ ws, ∀ a' U, s.WarmedH U.vm → w.before a' U = true) (hcode : Cond.code y bytes maxL ret ∈ ws) (hinit : ∀ a' U, s.WarmedH U.vm → (Cond.initialized y.cls).before a' U = true) :
    vx_Back l R p e below s sargs y len W9 (PreOf R mc ms Pc) (PostOf Qc mc ms free) (vx_Post XC mc ms free) := by
  intro m meth c A g ig mk a X hg hsize hdg hW hn hp
  have h1 : (headSpec ws rm).pre.before a A.U = true := atoms_intro fun w hw => hws w hw _ _ X.warmed
  have h2 : (Cond.code y bytes maxL ret).before a A.U = true := hws _ hcode _ _ X.warmed
  have h3 : (Cond.initialized y.cls).before a A.U = true := hinit _ _ X.warmed
  have h4 : A.cells + (headSpec ws rm).room.cells ≤ R.cells := by rw [show (headSpec ws rm).room.cells = mc from hrc]; exact hp.1
  have h5 : A.slots + (headSpec ws rm).room.slots ≤ R.slots := by rw [show (headSpec ws rm).room.slots = ms from hrs]; exact hp.2.1
  have hPc : Pc a (A.U.calling g mk a) := hblind _ _ _ _ hp.2.2
  obtain ⟨U, Ls, c0, s0⟩ := A
  dsimp only [Pt.U, Pt.locs, Pt.cells, Pt.slots] at h1 h2 h3 h4 h5 X hn hPc ⊢
  obtain ⟨methY, cY, hmY, hcY, -, hlY, -, -, -, -⟩ := Cond.code_spec hn h2
  obtain ⟨kY, hkY, -⟩ := className_of_methodNamed hn
  have hinitY : kY.init = .initialized := Cond.initialized_spec (findClass_of_methodNamed hn) hkY h3
  have h : At U g.method c below := by rw [hg]; exact X.here
  have hlocals9 : W9 + (maxL + 11) + (headSpec ws rm).room.locals ≤ R.locals := hlocals
  have happ : (headSpec ws rm).appliesLoose y e.platform (U.calling g mk a) = true :=
    Spec.appliesLoose_calling (g := g) h hdg hn hkY hinitY
      (X.room_calling (g := g) (R' := (headSpec ws rm).room) hsize hmY hcY hframes (by rw [hlY]; omega) h4 h5) h1
  obtain ⟨mid, hmid⟩ := h.above
  have hfr : (U.setTop g).frames = (.java g :: mid) ++ below := by rw [State.frames_setTop' g h.top, hmid]; rfl
  obtain ⟨o, s₂, hsteps, -, hend, hq⟩ := Steps.callFree hM p X.admits X.cas X.clock (acts := []) hfr happ hPc trivial
  have hq' : vx_Q Qc XC mc ms free a (U.calling g mk a) o s₂ := hq
  rw [State.frames_setTop' g h.top] at hend
  obtain ⟨g₀, hg0⟩ := Option.isSome_iff_exists.mp h.top
  obtain ⟨r, hr⟩ := State.topJava?_eq_some.mp hg0
  have hr' : (({ U with heap := s₂.heap, slotsUsed := s₂.slotsUsed } : State).setVm s₂.vm).frames = .java g₀ :: r := hr
  rcases hq' with ⟨hqc, L, hfe, hL⟩ | ⟨q, rfl, E, ce, L, hx, hce, hcv, hcl, hW₂, hsm, hL⟩
  · obtain ⟨⟨v, rfl⟩, hW₂, e2, q2, q3, q4, q5, q6⟩ := id hfe
    have e3 : s₂ = ({ (U.calling g mk a).setFrames s₂.frames with heap := s₂.heap, slotsUsed := s₂.slotsUsed } : State).setVm s₂.vm := by
      have : s₂ = ({ s₂ with vm := (U.calling g mk a).vm } : State).setVm s₂.vm := rfl
      rw [e2] at this
      exact this
    obtain ⟨c₂, i₂, len₂, hc₂, hd₂, hf₂⟩ := hend
    have hW' : U.WarmedH s₂.vm := hW₂
    have hcc : c₂ = c := by
      have h1 : s₂.code? g.method = U.code? g.method := by
        rw [State.code?_eq, State.code?_eq, hW'.alike.method?]
      exact Option.some.inj (hc₂.symm.trans (h1.trans h.code))
    subst hcc
    have hlen : len₂ = len := by rw [hdg] at hd₂; cases hd₂; rfl
    subst hlen
    have hs₂ : s₂ = (({ U with heap := s₂.heap, slotsUsed := s₂.slotsUsed } : State).setVm s₂.vm).setTop { g with pc := g.pc + len₂, stack := v.toList ++ g.stack } := by
      refine e3.trans ?_
      rw [hf₂, State.calling_eq h.top, State.setFrames_setFrames, State.setTop_of_frames _ hr', hr]
      rfl
    have hsame : U.sameButNew ({ U with heap := s₂.heap, slotsUsed := s₂.slotsUsed } : State) L mc ms := by
      refine ⟨?_, q2, q3, q4, q5, q6⟩
      obtain ⟨t, ht, -⟩ := State.frames_cons hr
      show ({ U with heap := s₂.heap, slotsUsed := s₂.slotsUsed } : State) = { U.setFrames U.frames with heap := s₂.heap, slotsUsed := s₂.slotsUsed }
      rw [State.setFrames_self ht]
    subst hg
    refine Or.inl ⟨v, ⟨(({ U with heap := s₂.heap, slotsUsed := s₂.slotsUsed } : State).setVm s₂.vm), Ls ++ L, c0 + mc, s0 + ms⟩,
      ⟨X.admits, X.cas, X.clock, X.frames, X.room, X.hears, X.method, X.code, (X.here.setHeapUsed s₂.heap s₂.slotsUsed).setVm hW'.alike, X.tail, State.WarmedH.trans X.warmed hW', X.limits, X.bytes, X.same.trans (hsame.setVm s.vm)⟩,
      ⟨g, mk, s₂, L, rfl, rfl, hqc, rfl, hL, rfl, rfl⟩, ?_⟩
    show Steps p.tables e below _ ((({ U with heap := s₂.heap, slotsUsed := s₂.slotsUsed } : State).setVm s₂.vm).setTop { g with pc := g.pc + len₂, stack := v.toList ++ g.stack })
    rw [← hs₂]
    exact hsteps
  · obtain ⟨e2, q2, q3, q4, q5, q6⟩ := id hsm
    have e3 : s₂ = ({ (U.calling g mk a).setFrames s₂.frames with heap := s₂.heap, slotsUsed := s₂.slotsUsed } : State).setVm s₂.vm := by
      have : s₂ = ({ s₂ with vm := (U.calling g mk a).vm } : State).setVm s₂.vm := rfl
      rw [e2] at this
      exact this
    have hf₂ : s₂.frames = .throwing q :: .java g :: U.frames.tail := hend
    have hW' : U.WarmedH s₂.vm := hW₂
    have hs₂ : s₂ = ((({ U with heap := s₂.heap, slotsUsed := s₂.slotsUsed } : State).setVm s₂.vm).setTop g).pushFrame (.throwing q) := by
      refine e3.trans ?_
      rw [hf₂, State.calling_eq h.top, State.setFrames_setFrames, State.pushFrame, State.frames_setTop _ hr', State.setTop_of_frames _ hr', State.setFrames_setFrames, hr]
      rfl
    have hsame : U.sameButNew ({ U with heap := s₂.heap, slotsUsed := s₂.slotsUsed } : State) L mc ms := by
      refine ⟨?_, q2, q3, q4, q5, q6⟩
      obtain ⟨t, ht, -⟩ := State.frames_cons hr
      show ({ U with heap := s₂.heap, slotsUsed := s₂.slotsUsed } : State) = { U.setFrames U.frames with heap := s₂.heap, slotsUsed := s₂.slotsUsed }
      rw [State.setFrames_self ht]
    subst hg
    refine Or.inr ⟨q, ⟨(({ U with heap := s₂.heap, slotsUsed := s₂.slotsUsed } : State).setVm s₂.vm), Ls ++ L, c0 + mc, s0 + ms⟩,
      ⟨X.admits, X.cas, X.clock, X.frames, X.room, X.hears, X.method, X.code, (X.here.setHeapUsed s₂.heap s₂.slotsUsed).setVm hW'.alike, X.tail, State.WarmedH.trans X.warmed hW', X.limits, X.bytes, X.same.trans (hsame.setVm s.vm)⟩,
      ⟨g, mk, s₂, L, E, ce, rfl, rfl, hx, hce, hcv, hcl, rfl, hL, rfl, rfl⟩, ?_⟩
    show Steps p.tables e below _ (((({ U with heap := s₂.heap, slotsUsed := s₂.slotsUsed } : State).setVm s₂.vm).setTop g).pushFrame (.throwing q))
    rw [← hs₂]
    exact hsteps
end Payer
section Calls
variable {p : Program} {l : Launch} {e : Env} {R : Room} {s : State} {m : MethodId} {args : Array Value} {below : List Frame} {meth : Method} {c : Code} {T : State} {locs : List Loc} {cells slots : Nat}
theorem vx_callV (X : Stand p l e R s m args below meth c T locs cells slots) (hexec : p.tables.exec = Jvm.exec) {own C : String} {index : Nat} {y : MethodName} {bytes : ByteArray} {maxL : Nat} {ret : Option FieldType}
    (hown : s.vm.findClass own = some m.cls) (hlink : (Cond.methodLink own index y).before args s = true) (hinst : (Cond.instanceMethod y).before args s = true) (hsel : (Cond.selects C y y).before args s = true)
    (hcode : (Cond.code y bytes maxL ret).before args s = true) (hy : y.cls ≠ "java/lang/invoke/MethodHandle" ∧ y.cls ≠ "java/lang/invoke/VarHandle")
    {W9 : Nat} {Pre : Pt → Array Value → Prop} {Post : Pt → Array Value → Option Value → Pt → Prop} {PostX : Pt → Array Value → Addr → Pt → Prop} (hK : vx_Back l R p e below s args y 3 W9 Pre Post PostX)
    {b : Addr} {cellB : Cell} (hcell : T.heap[b]? = some cellB) (hobj : cellB.vm.isStatics = false) (hcls : s.vm.findClass C = some cellB.cls)
    {g : JFrame} (hg : g.method = m) (hsize : g.locals.size = c.maxLocals) {argsL rest : List Value} (hlen : ∀ sig, parseMethodDescriptor y.desc = some sig → argsL.length = sig.parameters.length)
    (hstack : g.stack = argsL.reverse ++ .ref b :: rest) (hW : 2 * g.monitorRoom + (rest.map fun v => v.category).sum ≤ W9) (hdg : decode c.code g.pc = .ok (.invokevirtual index, 3))
    (hpre : ∀ vm₁, s.WarmedH vm₁ → Pre ⟨T.setVm vm₁, locs, cells, slots⟩ (Value.ref b :: argsL).toArray) :
    (∃ (v : Option Value) (vm₁ : Vm) (B : Pt), s.WarmedH vm₁ ∧ Stand p l e R s m args below meth c B.U B.locs B.cells B.slots ∧ Post ⟨T.setVm vm₁, locs, cells, slots⟩ (Value.ref b :: argsL).toArray v B ∧
      ∀ target, Steps p.tables e below (B.U.setTop { g with pc := g.pc + 3, stack := v.toList ++ rest }) target → Steps p.tables e below (T.setTop g) target) ∨
    (∃ (q : Addr) (vm₁ : Vm) (B : Pt), s.WarmedH vm₁ ∧ Stand p l e R s m args below meth c B.U B.locs B.cells B.slots ∧ PostX ⟨T.setVm vm₁, locs, cells, slots⟩ (Value.ref b :: argsL).toArray q B ∧
      Steps p.tables e below (T.setTop g) ((B.U.setTop { g with stack := rest }).pushFrame (.throwing q))) := by
  obtain ⟨mk, methM, hnamed, hmethM, hstM, habM⟩ := Cond.instanceMethod_spec hinst
  obtain ⟨methM', cM, hmethM', -, -, -, -, -, -, hsigM⟩ := Cond.code_spec hnamed hcode
  cases hmethM.symm.trans hmethM'
  obtain ⟨c2, r2, m2, q1, q2, q3, q4, kP, hkP, hkPi⟩ := Cond.selects_spec hsel
  cases hcls.symm.trans q1
  cases (State.methodFound?_of_named hnamed hy).symm.trans q2
  cases hnamed.symm.trans q3
  have hselP : selectMethod e.platform s.vm cellB.cls mk = .method mk := by rw [Launch.admits_selectMethod X.admits]; exact q4
  obtain ⟨vm₁, X₁, hstep₁⟩ := X.invokevirtual hexec hown hlink hnamed hmethM hstM hkP hkPi hy (a := b) (cell := cellB) hcell
    (fun z h => by rw [h] at hobj; cases hobj) hselP hmethM habM hkP hkPi (g := g) hg (argsL := argsL) (rest := rest) (hlen _ hsigM) hstack hdg
  rcases hK m meth c ⟨T.setVm vm₁, locs, cells, slots⟩ { g with stack := rest } (.invokevirtual index) mk (Value.ref b :: argsL).toArray X₁ hg hsize hdg hW (X₁.named hnamed) (hpre vm₁ X₁.warmed) with ⟨v, B, X', hpost, hsteps⟩ | ⟨q, B, X', hpost, hsteps⟩
  · exact Or.inl ⟨v, vm₁, B, X₁.warmed, X', hpost, fun target h => hstep₁ _ fun acts => by rw [doInvoke_state]; exact hsteps.trans h⟩
  · exact Or.inr ⟨q, vm₁, B, X₁.warmed, X', hpost, hstep₁ _ fun acts => by rw [doInvoke_state]; exact hsteps⟩
theorem vx_callS (X : Stand p l e R s m args below meth c T locs cells slots) (hexec : p.tables.exec = Jvm.exec) {own : String} {index : Nat} {y : MethodName} {bytes : ByteArray} {maxL : Nat} {ret : Option FieldType}
    (hown : s.vm.findClass own = some m.cls) (hlink : (Cond.methodLink own index y).before args s = true) (hstat : (Cond.static y).before args s = true) (hinit : (Cond.initialized y.cls).before args s = true)
    (hcode : (Cond.code y bytes maxL ret).before args s = true) (hy : y.cls ≠ "java/lang/invoke/MethodHandle" ∧ y.cls ≠ "java/lang/invoke/VarHandle")
    {W9 : Nat} {Pre : Pt → Array Value → Prop} {Post : Pt → Array Value → Option Value → Pt → Prop} {PostX : Pt → Array Value → Addr → Pt → Prop} (hK : vx_Back l R p e below s args y 3 W9 Pre Post PostX)
    {g : JFrame} (hg : g.method = m) (hsize : g.locals.size = c.maxLocals) {argsL rest : List Value} (hlen : ∀ sig, parseMethodDescriptor y.desc = some sig → argsL.length = sig.parameters.length)
    (hstack : g.stack = argsL.reverse ++ rest) (hW : 2 * g.monitorRoom + (rest.map fun v => v.category).sum ≤ W9) (hdg : decode c.code g.pc = .ok (.invokestatic index, 3))
    (hpre : ∀ vm₁, s.WarmedH vm₁ → Pre ⟨T.setVm vm₁, locs, cells, slots⟩ argsL.toArray) :
    (∃ (v : Option Value) (vm₁ : Vm) (B : Pt), s.WarmedH vm₁ ∧ Stand p l e R s m args below meth c B.U B.locs B.cells B.slots ∧ Post ⟨T.setVm vm₁, locs, cells, slots⟩ argsL.toArray v B ∧
      ∀ target, Steps p.tables e below (B.U.setTop { g with pc := g.pc + 3, stack := v.toList ++ rest }) target → Steps p.tables e below (T.setTop g) target) ∨
    (∃ (q : Addr) (vm₁ : Vm) (B : Pt), s.WarmedH vm₁ ∧ Stand p l e R s m args below meth c B.U B.locs B.cells B.slots ∧ PostX ⟨T.setVm vm₁, locs, cells, slots⟩ argsL.toArray q B ∧
      Steps p.tables e below (T.setTop g) ((B.U.setTop { g with stack := rest }).pushFrame (.throwing q))) := by
  obtain ⟨mk, hnamed⟩ := Cond.code_named hcode
  obtain ⟨methM, cM, hmethM, -, -, -, -, -, -, hsigM⟩ := Cond.code_spec hnamed hcode
  have hstatic : methM.isStatic = true := Cond.static_spec hnamed hmethM hstat
  obtain ⟨kP, hkP, -⟩ := className_of_methodNamed hnamed
  have hinitP : kP.init = .initialized := Cond.initialized_spec (findClass_of_methodNamed hnamed) hkP hinit
  obtain ⟨vm₁, X₁, hstep₁⟩ := X.invokestatic hexec hown hlink hnamed hmethM hstatic hkP hinitP hy (g := g) hg (argsL := argsL) (rest := rest) (hlen _ hsigM) hstack hdg
  rcases hK m meth c ⟨T.setVm vm₁, locs, cells, slots⟩ { g with stack := rest } (.invokestatic index) mk argsL.toArray X₁ hg hsize hdg hW (X₁.named hnamed) (hpre vm₁ X₁.warmed) with ⟨v, B, X', hpost, hsteps⟩ | ⟨q, B, X', hpost, hsteps⟩
  · exact Or.inl ⟨v, vm₁, B, X₁.warmed, X', hpost, fun target h => hstep₁ _ fun acts => by rw [doInvoke_state]; exact hsteps.trans h⟩
  · exact Or.inr ⟨q, vm₁, B, X₁.warmed, X', hpost, hstep₁ _ fun acts => by rw [doInvoke_state]; exact hsteps⟩
end Calls
theorem vx_cls {s : State} {T : State} {vm₁ : Vm} {E : String} {k : ClassId} (hW : s.WarmedH vm₁) (h : (T.setVm vm₁).vm.findClass E = some k) : s.vm.findClass E = some k := by
  have h1 : vm₁.findClass E = some k := h
  rw [hW.alike.findClass] at h1
  exact h1
/-- the method's frame g, with q thrown over it -/
def vx_W (p : Program) (l : Launch) (e : Env) (R : Room) (s : State) (m : MethodId) (args : Array Value) (below : List Frame) (meth : Method) (c : Code) (H : Heap) (locs : List Loc) (cells slots : Nat) (Q : State → Prop) (g : JFrame) (q : Addr) : Prop :=
  ∀ T : State, T.heap = H → Stand p l e R s m args below meth c T locs cells slots → ∃ t, Steps p.tables e below ((T.setTop g).pushFrame (.throwing q)) t ∧ Q t
def vx_Run (p : Program) (l : Launch) (e : Env) (R : Room) (s : State) (m : MethodId) (args : Array Value) (below : List Frame) (meth : Method) (c : Code) (H : Heap) (locs : List Loc) (cells slots mc ms : Nat) (g : JFrame) (rest : List Value) (Qa : State → Outcome → State → Prop) (XC : String → State → State → Prop) (free : Addr → Prop) : Prop :=
  ∀ T : State, T.heap = H → Stand p l e R s m args below meth c T locs cells slots →
    (∃ (v : Option Value) (st₀ t T' : State) (L : List Loc), st₀.heap = H ∧ Stand p l e R s m args below meth c T' (locs ++ L) (cells + mc) (slots + ms) ∧ (∀ q ∈ L, free q.base) ∧ T'.heap = t.heap ∧ T'.vm = t.vm ∧ Qa st₀ (.returned v) t ∧
      Goes p e below T g T' { g with pc := g.pc + 3, stack := v.toList ++ rest }) ∨
    (∃ (q : Addr) (st₀ t T' : State) (L : List Loc) (E : String) (ce : Cell), st₀.heap = H ∧ Stand p l e R s m args below meth c T' (locs ++ L) (cells + mc) (slots + ms) ∧ (∀ z ∈ L, free z.base) ∧ T'.heap = t.heap ∧ T'.vm = t.vm ∧ XC E st₀ t ∧ t.heap[q]? = some ce ∧ ce.vm = .none ∧ s.vm.findClass E = some ce.cls ∧
      Steps p.tables e below (T.setTop g) ((T'.setTop { g with stack := rest }).pushFrame (.throwing q)))
def vx_X {S : Type} (px : S → Prop) (B : String → S → State → Prop) (A : Nat → Prop) : String → State → State → Prop := fun E st t => ∃ u : S, px u ∧ B E u t ∧ va_F A st t
section Runs
variable {p : Program} {l : Launch} {e : Env} {R : Room} {s : State} {m : MethodId} {args : Array Value} {below : List Frame} {meth : Method} {c : Code} {H : Heap} {locs : List Loc} {cells slots : Nat}
variable {y : MethodName} {bytes cc : ByteArray} {maxL nL mc ms n index : Nat} {ret : Option FieldType} {ws : List Cond} {rm : Room} {Pc : Array Value → State → Prop} {Qc : Array Value → State → Outcome → State → Prop} {XC : String → State → State → Prop} {free : Addr → Prop} {Ts : List Cond} {own C : String} {b : Addr} {As rest : List Value} {g : JFrame}
theorem vx_callBack (cb : CallB R s args own index y bytes maxL ret ws rm mc ms n) (hM : vx_Met l y ws rm Pc Qc XC mc ms free) (hbl : FrameBlind Pc) : vx_Back l R p e below s args y 3 8 (PreOf R mc ms Pc) (PostOf Qc mc ms free) (vx_Post XC mc ms free) := by
  obtain ⟨hrc, hrs, hfr, hlo, hws, hcw, -, hini, -⟩ := cb
  exact vx_back (bytes := bytes) (maxL := maxL) (ret := ret) hM hbl hrc hrs hfr hlo hws hcw (fun a' U hW => word_at hW (Or.inl (by first | rfl | simp [Cond.onTables, Cond.keeps, Cond.steady])) hini)
theorem vx_runV (S : CallFix p m c cc nL s args Ts own) (hM : vx_Met l y ws rm Pc Qc XC mc ms free) (cw : CallW R s args own C index y bytes maxL ret ws rm mc ms n) (hp : PreV s H C b Pc As)
    (hg : g.method = m) (hn : As.length = n) (hsize : g.locals.size = nL) (hstack : g.stack = As.reverse ++ .ref b :: rest) (hW : 2 * g.monitorRoom + (rest.map fun v => v.category).sum ≤ 8) (hdg : decode cc g.pc = .ok (.invokevirtual index, 3)) (hf : cells + mc ≤ R.cells ∧ slots + ms ≤ R.slots) :
    vx_Run p l e R s m args below meth c H locs cells slots mc ms g rest (Qc (Value.ref b :: As).toArray) XC free := by
  have hK : vx_Back l R p e below s args y 3 8 (PreOf R mc ms Pc) (PostOf Qc mc ms free) (vx_Post XC mc ms free) := vx_callBack cw.1 hM hp.1
  obtain ⟨⟨-, -, -, -, -, -, hcode, -, hy, hlen, hl⟩, hin, hse⟩ := cw
  obtain ⟨hx, hb, hml, ho, -⟩ := S
  obtain ⟨-, ⟨cellB, hcB, hoB, hclB⟩, hPc⟩ := hp
  intro T hT X
  rcases vx_callV X hx (C := C) (bytes := bytes) (maxL := maxL) (ret := ret) ho hl hin hse hcode hy hK (by rw [hT]; exact hcB) hoB hclB hg (hsize.trans hml.symm) (argsL := As) (rest := rest) (fun sig h => hn.trans (hlen sig h)) hstack hW (by rw [hb]; exact hdg)
    (fun vm₁ hW₁ => ⟨hf.1, hf.2, hPc (T.setVm vm₁) hT hW₁⟩) with ⟨v, vm₁, ⟨U', l2, c2, s2⟩, hW₁, X', ⟨g', mk, t, L, e1, e2, hq, h1, hL, h2, h3⟩, st⟩ | ⟨q, vm₁, ⟨U', l2, c2, s2⟩, hW₁, X', ⟨g', mk, t, L, E, ce, e1, e2, hq, hce, hcv, hcl, h1, hL, h2, h3⟩, st⟩
  · dsimp only [Pt.U, Pt.locs, Pt.cells, Pt.slots] at X' e1 e2 h1 h2 h3 st
    subst h1; subst h2; subst h3
    exact Or.inl ⟨v, (T.setVm vm₁).calling g' mk (Value.ref b :: As).toArray, t, U', L, hT, X', hL, e1, e2, hq, st⟩
  · dsimp only [Pt.U, Pt.locs, Pt.cells, Pt.slots] at X' e1 e2 h1 h2 h3 st hcl
    subst h1; subst h2; subst h3
    exact Or.inr ⟨q, (T.setVm vm₁).calling g' mk (Value.ref b :: As).toArray, t, U', L, E, ce, hT, X', hL, e1, e2, hq, hce, hcv, vx_cls hW₁ hcl, st⟩
theorem vx_runS (S : CallFix p m c cc nL s args Ts own) (hM : vx_Met l y ws rm Pc Qc XC mc ms free) (cw : CallB R s args own index y bytes maxL ret ws rm mc ms n ∧ (Cond.static y).before args s = true) (hp : PreS s H Pc As)
    (hg : g.method = m) (hn : As.length = n) (hsize : g.locals.size = nL) (hstack : g.stack = As.reverse ++ rest) (hW : 2 * g.monitorRoom + (rest.map fun v => v.category).sum ≤ 8) (hdg : decode cc g.pc = .ok (.invokestatic index, 3)) (hf : cells + mc ≤ R.cells ∧ slots + ms ≤ R.slots) :
    vx_Run p l e R s m args below meth c H locs cells slots mc ms g rest (Qc As.toArray) XC free := by
  have hK : vx_Back l R p e below s args y 3 8 (PreOf R mc ms Pc) (PostOf Qc mc ms free) (vx_Post XC mc ms free) := vx_callBack cw.1 hM hp.1
  obtain ⟨⟨-, -, -, -, -, -, hcode, hini, hy, hlen, hl⟩, hstt⟩ := cw
  obtain ⟨hx, hb, hml, ho, -⟩ := S
  intro T hT X
  rcases vx_callS X hx (bytes := bytes) (maxL := maxL) (ret := ret) ho hl hstt hini hcode hy hK hg (hsize.trans hml.symm) (argsL := As) (rest := rest) (fun sig h => hn.trans (hlen sig h)) hstack hW (by rw [hb]; exact hdg)
    (fun vm₁ hW₁ => ⟨hf.1, hf.2, hp.2 (T.setVm vm₁) hT hW₁⟩) with ⟨v, vm₁, ⟨U', l2, c2, s2⟩, hW₁, X', ⟨g', mk, t, L, e1, e2, hq, h1, hL, h2, h3⟩, st⟩ | ⟨q, vm₁, ⟨U', l2, c2, s2⟩, hW₁, X', ⟨g', mk, t, L, E, ce, e1, e2, hq, hce, hcv, hcl, h1, hL, h2, h3⟩, st⟩
  · dsimp only [Pt.U, Pt.locs, Pt.cells, Pt.slots] at X' e1 e2 h1 h2 h3 st
    subst h1; subst h2; subst h3
    exact Or.inl ⟨v, (T.setVm vm₁).calling g' mk As.toArray, t, U', L, hT, X', hL, e1, e2, hq, st⟩
  · dsimp only [Pt.U, Pt.locs, Pt.cells, Pt.slots] at X' e1 e2 h1 h2 h3 st hcl
    subst h1; subst h2; subst h3
    exact Or.inr ⟨q, (T.setVm vm₁).calling g' mk As.toArray, t, U', L, E, ce, hT, X', hL, e1, e2, hq, hce, hcv, vx_cls hW₁ hcl, st⟩
end Runs
section Rows
variable {p : Program} {l : Launch} {e : Env} {R : Room} {s : State} {m : MethodId} {args : Array Value} {below : List Frame} {meth : Method} {c : Code} {H : Heap} {locs : List Loc} {cells slots : Nat} {Q : State → Prop}
variable {mc ms : Nat} {free : Addr → Prop} {A0 A1 : Nat → Prop} {H0 : Heap} {a : Array Value} {pc : Nat} {ls : Array Slot} {st0 rest : List Value}
theorem vx_keep {st₀ t T' : State} {L : List Loc} (h0 : st₀.heap = H) (e1 : T'.heap = t.heap) (hS : va_S A0 H0 H locs) (hA : ∀ q, q < H.size → A1 q → A0 q) (hf : ∀ q, free q → A0 q) (hL : ∀ q ∈ L, free q.base) (hF : va_F A1 st₀ t) :
    H.size ≤ T'.heap.size ∧ (∀ q : Nat, q < H.size → ¬ A1 q → T'.heap[q]? = H[q]?) ∧ va_S A0 H0 T'.heap (locs ++ L) := by
  obtain ⟨hz, hk⟩ := hF
  rw [h0] at hz hk
  exact ⟨by rw [e1]; exact hz, fun q h1 h2 => by rw [e1]; exact hk q h1 h2,
    ⟨Nat.le_trans hS.1 (by rw [e1]; exact hz), fun q h1 h2 => by rw [e1, hk q (Nat.lt_of_lt_of_le h1 hS.1) (fun z => h2 (hA q (Nat.lt_of_lt_of_le h1 hS.1) z))]; exact hS.2.1 q h1 h2, fun q hq => by
      rcases List.mem_append.mp hq with h | h
      · exact hS.2.2 q h
      · exact hf _ (hL q h)⟩⟩
theorem vx_calli {S SX : Type} {post : Int32 → S → Prop} {px : SX → Prop} {B : S → State → Prop} {BX : String → SX → State → Prop} {AX : Nat → Prop} (hr : vx_Run p l e R s m args below meth c H locs cells slots mc ms (F0 m pc ls st0) rest (va_Qi post B A1 a) (vx_X px BX AX) free) (hS : va_S A0 H0 H locs) (hA : ∀ q, q < H.size → A1 q → A0 q) (hf : ∀ q, free q → A0 q) (hAX : ∀ q, q < H.size → AX q → A0 q)
    (kx : ∀ (E : String) (ce : Cell) (q9 : Addr) (u : SX) (t : State) (H1 : Heap) (locs1 : List Loc), t.heap = H1 → s.vm.Alike t.vm → px u → BX E u t → H.size ≤ H1.size → (∀ q : Nat, q < H.size → ¬ AX q → H1[q]? = H[q]?) → va_S A0 H0 H1 locs1 → H1[q9]? = some ce → ce.vm = .none → s.vm.findClass E = some ce.cls → vx_W p l e R s m args below meth c H1 locs1 (cells + mc) (slots + ms) Q (F0 m pc ls rest) q9)
    (kk : ∀ (r : Int32) (u : S) (t : State) (H1 : Heap) (locs1 : List Loc), t.heap = H1 → s.vm.Alike t.vm → post r u → B u t → H.size ≤ H1.size → (∀ q : Nat, q < H.size → ¬ A1 q → H1[q]? = H[q]?) → va_S A0 H0 H1 locs1 → W p l e R s m args below meth c H1 locs1 (cells + mc) (slots + ms) Q (F0 m (pc + 3) ls (.int r :: rest))) : W p l e R s m args below meth c H locs cells slots Q (F0 m pc ls st0) := by
  intro T hT X
  rcases hr T hT X with ⟨v, st₀, t, T', L, h0, X', hL, e1, e2, ⟨⟨r, u, hv, hp, hb⟩, hF⟩, st⟩ | ⟨q, st₀, t, T', L, E, ce, h0, X', hL, e1, e2, ⟨u, hp, hb, hF⟩, hce, hcv, hcl, st⟩
  · cases hv
    obtain ⟨k1, k2, k3⟩ := vx_keep h0 e1 hS hA hf hL hF
    obtain ⟨t2, a1, b1⟩ := kk r u t T'.heap (locs ++ L) e1.symm (by rw [← e2]; exact X'.warmed.alike) hp hb k1 k2 k3 T' rfl X'
    exact ⟨t2, st t2 a1, b1⟩
  · obtain ⟨k1, k2, k3⟩ := vx_keep h0 e1 hS hAX hf hL hF
    obtain ⟨t2, a1, b1⟩ := kx E ce q u t T'.heap (locs ++ L) e1.symm (by rw [← e2]; exact X'.warmed.alike) hp hb k1 k2 k3 (by rw [e1]; exact hce) hcv hcl T' rfl X'
    exact ⟨t2, st.trans a1, b1⟩
theorem vx_calll {S SX : Type} {post : Int64 → S → Prop} {px : SX → Prop} {B : S → State → Prop} {BX : String → SX → State → Prop} {AX : Nat → Prop} (hr : vx_Run p l e R s m args below meth c H locs cells slots mc ms (F0 m pc ls st0) rest (va_Ql post B A1 a) (vx_X px BX AX) free) (hS : va_S A0 H0 H locs) (hA : ∀ q, q < H.size → A1 q → A0 q) (hf : ∀ q, free q → A0 q) (hAX : ∀ q, q < H.size → AX q → A0 q)
    (kx : ∀ (E : String) (ce : Cell) (q9 : Addr) (u : SX) (t : State) (H1 : Heap) (locs1 : List Loc), t.heap = H1 → s.vm.Alike t.vm → px u → BX E u t → H.size ≤ H1.size → (∀ q : Nat, q < H.size → ¬ AX q → H1[q]? = H[q]?) → va_S A0 H0 H1 locs1 → H1[q9]? = some ce → ce.vm = .none → s.vm.findClass E = some ce.cls → vx_W p l e R s m args below meth c H1 locs1 (cells + mc) (slots + ms) Q (F0 m pc ls rest) q9)
    (kk : ∀ (r : Int64) (u : S) (t : State) (H1 : Heap) (locs1 : List Loc), t.heap = H1 → s.vm.Alike t.vm → post r u → B u t → H.size ≤ H1.size → (∀ q : Nat, q < H.size → ¬ A1 q → H1[q]? = H[q]?) → va_S A0 H0 H1 locs1 → W p l e R s m args below meth c H1 locs1 (cells + mc) (slots + ms) Q (F0 m (pc + 3) ls (.long r :: rest))) : W p l e R s m args below meth c H locs cells slots Q (F0 m pc ls st0) := by
  intro T hT X
  rcases hr T hT X with ⟨v, st₀, t, T', L, h0, X', hL, e1, e2, ⟨⟨r, u, hv, hp, hb⟩, hF⟩, st⟩ | ⟨q, st₀, t, T', L, E, ce, h0, X', hL, e1, e2, ⟨u, hp, hb, hF⟩, hce, hcv, hcl, st⟩
  · cases hv
    obtain ⟨k1, k2, k3⟩ := vx_keep h0 e1 hS hA hf hL hF
    obtain ⟨t2, a1, b1⟩ := kk r u t T'.heap (locs ++ L) e1.symm (by rw [← e2]; exact X'.warmed.alike) hp hb k1 k2 k3 T' rfl X'
    exact ⟨t2, st t2 a1, b1⟩
  · obtain ⟨k1, k2, k3⟩ := vx_keep h0 e1 hS hAX hf hL hF
    obtain ⟨t2, a1, b1⟩ := kx E ce q u t T'.heap (locs ++ L) e1.symm (by rw [← e2]; exact X'.warmed.alike) hp hb k1 k2 k3 (by rw [e1]; exact hce) hcv hcl T' rfl X'
    exact ⟨t2, st.trans a1, b1⟩
theorem vx_callf {S SX : Type} {post : UInt32 → S → Prop} {px : SX → Prop} {B : S → State → Prop} {BX : String → SX → State → Prop} {AX : Nat → Prop} (hr : vx_Run p l e R s m args below meth c H locs cells slots mc ms (F0 m pc ls st0) rest (va_Qf post B A1 a) (vx_X px BX AX) free) (hS : va_S A0 H0 H locs) (hA : ∀ q, q < H.size → A1 q → A0 q) (hf : ∀ q, free q → A0 q) (hAX : ∀ q, q < H.size → AX q → A0 q)
    (kx : ∀ (E : String) (ce : Cell) (q9 : Addr) (u : SX) (t : State) (H1 : Heap) (locs1 : List Loc), t.heap = H1 → s.vm.Alike t.vm → px u → BX E u t → H.size ≤ H1.size → (∀ q : Nat, q < H.size → ¬ AX q → H1[q]? = H[q]?) → va_S A0 H0 H1 locs1 → H1[q9]? = some ce → ce.vm = .none → s.vm.findClass E = some ce.cls → vx_W p l e R s m args below meth c H1 locs1 (cells + mc) (slots + ms) Q (F0 m pc ls rest) q9)
    (kk : ∀ (r : UInt32) (u : S) (t : State) (H1 : Heap) (locs1 : List Loc), t.heap = H1 → s.vm.Alike t.vm → post r u → B u t → H.size ≤ H1.size → (∀ q : Nat, q < H.size → ¬ A1 q → H1[q]? = H[q]?) → va_S A0 H0 H1 locs1 → W p l e R s m args below meth c H1 locs1 (cells + mc) (slots + ms) Q (F0 m (pc + 3) ls (.float r :: rest))) : W p l e R s m args below meth c H locs cells slots Q (F0 m pc ls st0) := by
  intro T hT X
  rcases hr T hT X with ⟨v, st₀, t, T', L, h0, X', hL, e1, e2, ⟨⟨r, u, hv, hp, hb⟩, hF⟩, st⟩ | ⟨q, st₀, t, T', L, E, ce, h0, X', hL, e1, e2, ⟨u, hp, hb, hF⟩, hce, hcv, hcl, st⟩
  · cases hv
    obtain ⟨k1, k2, k3⟩ := vx_keep h0 e1 hS hA hf hL hF
    obtain ⟨t2, a1, b1⟩ := kk r u t T'.heap (locs ++ L) e1.symm (by rw [← e2]; exact X'.warmed.alike) hp hb k1 k2 k3 T' rfl X'
    exact ⟨t2, st t2 a1, b1⟩
  · obtain ⟨k1, k2, k3⟩ := vx_keep h0 e1 hS hAX hf hL hF
    obtain ⟨t2, a1, b1⟩ := kx E ce q u t T'.heap (locs ++ L) e1.symm (by rw [← e2]; exact X'.warmed.alike) hp hb k1 k2 k3 (by rw [e1]; exact hce) hcv hcl T' rfl X'
    exact ⟨t2, st.trans a1, b1⟩
theorem vx_calld {S SX : Type} {post : UInt64 → S → Prop} {px : SX → Prop} {B : S → State → Prop} {BX : String → SX → State → Prop} {AX : Nat → Prop} (hr : vx_Run p l e R s m args below meth c H locs cells slots mc ms (F0 m pc ls st0) rest (va_Qd post B A1 a) (vx_X px BX AX) free) (hS : va_S A0 H0 H locs) (hA : ∀ q, q < H.size → A1 q → A0 q) (hf : ∀ q, free q → A0 q) (hAX : ∀ q, q < H.size → AX q → A0 q)
    (kx : ∀ (E : String) (ce : Cell) (q9 : Addr) (u : SX) (t : State) (H1 : Heap) (locs1 : List Loc), t.heap = H1 → s.vm.Alike t.vm → px u → BX E u t → H.size ≤ H1.size → (∀ q : Nat, q < H.size → ¬ AX q → H1[q]? = H[q]?) → va_S A0 H0 H1 locs1 → H1[q9]? = some ce → ce.vm = .none → s.vm.findClass E = some ce.cls → vx_W p l e R s m args below meth c H1 locs1 (cells + mc) (slots + ms) Q (F0 m pc ls rest) q9)
    (kk : ∀ (r : UInt64) (u : S) (t : State) (H1 : Heap) (locs1 : List Loc), t.heap = H1 → s.vm.Alike t.vm → post r u → B u t → H.size ≤ H1.size → (∀ q : Nat, q < H.size → ¬ A1 q → H1[q]? = H[q]?) → va_S A0 H0 H1 locs1 → W p l e R s m args below meth c H1 locs1 (cells + mc) (slots + ms) Q (F0 m (pc + 3) ls (.double r :: rest))) : W p l e R s m args below meth c H locs cells slots Q (F0 m pc ls st0) := by
  intro T hT X
  rcases hr T hT X with ⟨v, st₀, t, T', L, h0, X', hL, e1, e2, ⟨⟨r, u, hv, hp, hb⟩, hF⟩, st⟩ | ⟨q, st₀, t, T', L, E, ce, h0, X', hL, e1, e2, ⟨u, hp, hb, hF⟩, hce, hcv, hcl, st⟩
  · cases hv
    obtain ⟨k1, k2, k3⟩ := vx_keep h0 e1 hS hA hf hL hF
    obtain ⟨t2, a1, b1⟩ := kk r u t T'.heap (locs ++ L) e1.symm (by rw [← e2]; exact X'.warmed.alike) hp hb k1 k2 k3 T' rfl X'
    exact ⟨t2, st t2 a1, b1⟩
  · obtain ⟨k1, k2, k3⟩ := vx_keep h0 e1 hS hAX hf hL hF
    obtain ⟨t2, a1, b1⟩ := kx E ce q u t T'.heap (locs ++ L) e1.symm (by rw [← e2]; exact X'.warmed.alike) hp hb k1 k2 k3 (by rw [e1]; exact hce) hcv hcl T' rfl X'
    exact ⟨t2, st.trans a1, b1⟩
theorem vx_callv {S SX : Type} {post : S → Prop} {px : SX → Prop} {B : S → State → Prop} {BX : String → SX → State → Prop} {AX : Nat → Prop} (hr : vx_Run p l e R s m args below meth c H locs cells slots mc ms (F0 m pc ls st0) rest (va_Qv post B A1 a) (vx_X px BX AX) free) (hS : va_S A0 H0 H locs) (hA : ∀ q, q < H.size → A1 q → A0 q) (hf : ∀ q, free q → A0 q) (hAX : ∀ q, q < H.size → AX q → A0 q)
    (kx : ∀ (E : String) (ce : Cell) (q9 : Addr) (u : SX) (t : State) (H1 : Heap) (locs1 : List Loc), t.heap = H1 → s.vm.Alike t.vm → px u → BX E u t → H.size ≤ H1.size → (∀ q : Nat, q < H.size → ¬ AX q → H1[q]? = H[q]?) → va_S A0 H0 H1 locs1 → H1[q9]? = some ce → ce.vm = .none → s.vm.findClass E = some ce.cls → vx_W p l e R s m args below meth c H1 locs1 (cells + mc) (slots + ms) Q (F0 m pc ls rest) q9)
    (kk : ∀ (u : S) (t : State) (H1 : Heap) (locs1 : List Loc), t.heap = H1 → s.vm.Alike t.vm → post u → B u t → H.size ≤ H1.size → (∀ q : Nat, q < H.size → ¬ A1 q → H1[q]? = H[q]?) → va_S A0 H0 H1 locs1 → W p l e R s m args below meth c H1 locs1 (cells + mc) (slots + ms) Q (F0 m (pc + 3) ls (rest))) : W p l e R s m args below meth c H locs cells slots Q (F0 m pc ls st0) := by
  intro T hT X
  rcases hr T hT X with ⟨v, st₀, t, T', L, h0, X', hL, e1, e2, ⟨⟨u, hv, hp, hb⟩, hF⟩, st⟩ | ⟨q, st₀, t, T', L, E, ce, h0, X', hL, e1, e2, ⟨u, hp, hb, hF⟩, hce, hcv, hcl, st⟩
  · cases hv
    obtain ⟨k1, k2, k3⟩ := vx_keep h0 e1 hS hA hf hL hF
    obtain ⟨t2, a1, b1⟩ := kk u t T'.heap (locs ++ L) e1.symm (by rw [← e2]; exact X'.warmed.alike) hp hb k1 k2 k3 T' rfl X'
    exact ⟨t2, st t2 a1, b1⟩
  · obtain ⟨k1, k2, k3⟩ := vx_keep h0 e1 hS hAX hf hL hF
    obtain ⟨t2, a1, b1⟩ := kx E ce q u t T'.heap (locs ++ L) e1.symm (by rw [← e2]; exact X'.warmed.alike) hp hb k1 k2 k3 (by rw [e1]; exact hce) hcv hcl T' rfl X'
    exact ⟨t2, st.trans a1, b1⟩
/-- caught by the row x of this method's table; the rows ahead don't take it -/
theorem vx_catch {own name : String} {E : String} {ce : Cell} {q : Addr} (hown : s.vm.findClass own = some m.cls) (pre : List ExceptionTableEntry) (x : ExceptionTableEntry) (suf : List ExceptionTableEntry) (hsplit : c.exceptionTable.toList = pre ++ x :: suf)
    (hpass : ∀ z ∈ pre, covers z pc = false ∨ (z.catchType ≠ 0 ∧ ∃ nm : String, (Cond.classLink own z.catchType nm).before args s = true ∧ va_Nc E nm s)) (hx : covers x pc = true) (h0 : x.catchType ≠ 0)
    (hlink : (Cond.classLink own x.catchType name).before args s = true) (hcast : (Cond.castable E name).before args s = true) (hcell : H[q]? = some ce) (hv : ce.vm = .none) (hcl : s.vm.findClass E = some ce.cls)
    (kk : W p l e R s m args below meth c H locs cells slots Q (F0 m x.handlerPc ls [.ref q])) : vx_W p l e R s m args below meth c H locs cells slots Q (F0 m pc ls rest) q := by
  intro T hT X
  have hpl : e.platform.magicAccessors = ({} : Platform).magicAccessors := by rw [X.admits.platform]
  obtain ⟨c3, c4, hc3, hc4, hasg⟩ := Cond.castable_spec hcast
  cases Option.some.inj (hc3.symm.trans hcl)
  obtain ⟨c5, hc5, hcl5⟩ := Cond.classLink_spec hown hlink e.platform hpl
  cases Option.some.inj (hc4.symm.trans hc5)
  obtain ⟨vm', X', st⟩ := X.thenCaughtThrough q (g := F0 m pc ls rest) rfl (Steps.refl _) (by rw [hT]; exact hcell) (by rw [hv]; rfl) (by obtain ⟨k9, h9, -⟩ := Vm.findClass_spec hcl; exact ⟨k9, h9⟩) pre x suf hsplit
    (fun z hz => by
      rcases hpass z hz with h | ⟨hz0, nm, hl1, hn1⟩
      · exact Or.inl h
      · obtain ⟨c6, hc6, hcl6⟩ := Cond.classLink_spec hown hl1 e.platform hpl
        obtain ⟨a8, b8, h1, h2, h3⟩ := hn1
        cases Option.some.inj (h1.symm.trans hcl)
        cases Option.some.inj (h2.symm.trans hc6)
        exact Or.inr ⟨hz0, _, hcl6, h3⟩) hx (Or.inr ⟨h0, c4, hcl5, hasg⟩)
  obtain ⟨t, a1, b1⟩ := kk (T.setVm vm') hT X'
  exact ⟨t, st.trans a1, b1⟩
end Rows
section Ends
variable {p : Program} {l : Launch} {e : Env} {R : Room} {s : State} {m : MethodId} {args : Array Value} {below : List Frame} {meth : Method} {c : Code} {H : Heap} {locs : List Loc} {cells slots : Nat} {Q : State → Prop}
variable {mc ms : Nat} {free : Addr → Prop} {A0 A1 : Nat → Prop} {H0 : Heap} {a : Array Value} {ls : Array Slot} {st0 rest : List Value}
variable {Qc : Array Value → State → Outcome → State → Prop} {XC : String → State → State → Prop}
/-- what a body that may throw owes at its end -/
def vx_MQ (below : List Frame) (Qc : Array Value → State → Outcome → State → Prop) (XC : String → State → State → Prop) (a : Array Value) (s : State) (mc ms : Nat) (free : Addr → Prop) : State → Prop := fun t =>
  ∃ o, t.status = .running ∧ Ended t below o ∧ vx_Q Qc XC mc ms free a s o t
theorem vx_ret {g : JFrame} {mc ms : Nat} (k : W p l e R s m args below meth c H locs cells slots (MQ below Qc args s mc ms free) g) : W p l e R s m args below meth c H locs cells slots (vx_MQ below Qc XC args s mc ms free) g := by
  intro T hT X
  obtain ⟨t, a1, o, b1, b2, b3, b4⟩ := k T hT X
  exact ⟨t, a1, o, b1, b2, Or.inl ⟨b3, b4⟩⟩
/-- not caught here: it goes on to the caller -/
theorem vx_widen {g : JFrame} {q : Addr} {k n : Nat} (h1 : cells ≤ k) (h2 : slots ≤ n) (kk : vx_W p l e R s m args below meth c H locs k n Q g q) : vx_W p l e R s m args below meth c H locs cells slots Q g q := fun T hT X => kk T hT (stand_widen X h1 h2)
theorem vx_out {pc : Nat} {E : String} {ce : Cell} {q : Addr} {mc ms : Nat} (hout : ∀ x ∈ c.exceptionTable.toList, covers x pc = false) (hlocks : meth.locks = false) (hcell : H[q]? = some ce) (hv : ce.vm = .none) (hcl : s.vm.findClass E = some ce.cls)
    (hx : ∀ t : State, t.heap = H → s.vm.Alike t.vm → XC E s t) (hf : ∀ z ∈ locs, free z.base) (hc : cells ≤ mc) (hs : slots ≤ ms) :
    vx_W p l e R s m args below meth c H locs cells slots (vx_MQ below Qc XC args s mc ms free) (F0 m pc ls rest) q := by
  intro T hT X
  obtain ⟨st1, hrun, hend, hW, hsm⟩ := X.leaveThrown q (g := F0 m pc ls rest) rfl rfl rfl hout hlocks
  have hcell9 : (T.setFrames (.throwing q :: below)).heap[q]? = some ce := by
    show T.heap[q]? = some ce
    rw [hT]; exact hcell
  exact ⟨_, st1, .threw q, hrun, hend, Or.inr ⟨q, rfl, E, ce, locs, hx _ hT hW.alike, hcell9, hv, hcl, hW, hsm.mono hc hs, hf⟩⟩
theorem vx_frame {U : State} {k n : Nat} (h : s.sameButNew ({ U with vm := s.vm } : State) locs k n) : s.heap.size ≤ U.heap.size ∧ ∀ q : Nat, q < s.heap.size → (∀ z ∈ locs, z.base ≠ q) → U.heap[q]? = s.heap[q]? := by
  obtain ⟨-, h2, -, -, -, h6⟩ := h
  refine ⟨h2, fun q hq hz => ?_⟩
  obtain ⟨c9, e1, e2, e3, e4⟩ := h6 q _ (Array.getElem?_eq_getElem hq)
  have hs : c9.slots = (s.heap[q]).slots := Array.ext_getElem? fun i => e4 i fun hm => hz _ hm rfl
  have h9 : c9 = s.heap[q] := by
    rw [hs] at e2
    exact e2
  have e5 : U.heap[q]? = some c9 := e1
  rw [e5, h9, Array.getElem?_eq_getElem hq]
/-- the words of a throw but the four that speak of the heap -/
def vx_no (w : Cond) : Bool := decide (w ≠ .isRef (.static Bundle.tN "UNASSIGNED_STACK" Bundle.steD)) && decide (w ≠ .isRef (.static Bundle.tN "SUPPRESSED_SENTINEL" Bundle.listD)) && decide (w ≠ .laysStatic Bundle.tN "UNASSIGNED_STACK" Bundle.steD) && decide (w ≠ .laysStatic Bundle.tN "SUPPRESSED_SENTINEL" Bundle.listD)
def vx_at0 (own : String) (ic : Nat) (X : String) (names : List String) : List Cond := (Bundle.ownAtoms0 own ic X names).filter vx_no
def vx_atS (own : String) (ic : Nat) (X : String) (names : List String) : List Cond := (Bundle.ownAtoms own ic X names).filter vx_no
/-- a word that the tables alone decide, or a good one -/
def vx_ot (w : Cond) : Bool := w.onTables || goodWord w
theorem vx_ot_at {args a' : Array Value} {s U : State} {w : Cond} (hW : s.WarmedH U.vm) (hvm : s.vm = U.vm) (hg : vx_ot w = true) (h : w.before args s = true) : w.before a' U = true := by
  simp only [vx_ot, Bool.or_eq_true] at hg
  rcases hg with hg | hg
  · exact va_tabs hg hvm h
  · exact word_at hW (good_of_word hg) h
/-- a list's words: the good ones out of the method's own list, the others by premises of their own -/
theorem vx_hat {args : Array Value} {s : State} {L B : List Cond} (h1 : ∀ w ∈ L.filter goodWord, w.before args s = true) (h2 : ∀ w ∈ L.filter (fun w => !goodWord w), w ∈ B) (h3 : ∀ w ∈ B, w.before args s = true) : ∀ w ∈ L, w.before args s = true := by
  intro w hw
  by_cases g : goodWord w = true
  · exact h1 w (List.mem_filter.mpr ⟨hw, g⟩)
  · refine h3 w (h2 w (List.mem_filter.mpr ⟨hw, ?_⟩))
    show (!goodWord w) = true
    cases hgw : goodWord w
    · rfl
    · exact absurd hgw g
theorem vx_c {args : Array Value} {s : State} {w : Cond} {B : List Cond} (h : w.before args s = true) (t : ∀ w ∈ B, w.before args s = true) : ∀ w' ∈ w :: B, w'.before args s = true := fun w' h' => (List.mem_cons.mp h').elim (fun e => by rw [e]; exact h) (t w')
theorem vx_n {args : Array Value} {s : State} : ∀ w ∈ ([] : List Cond), w.before args s = true := fun _ h => nomatch h
theorem vx_own {args : Array Value} {s : State} {L : List Cond} (h1 : ∀ w ∈ L.filter vx_no, w.before args s = true)
    (hU : (Cond.isRef (.static Bundle.tN "UNASSIGNED_STACK" Bundle.steD)).before args s = true) (hN : (Cond.isRef (.static Bundle.tN "SUPPRESSED_SENTINEL" Bundle.listD)).before args s = true)
    (lU : (Cond.laysStatic Bundle.tN "UNASSIGNED_STACK" Bundle.steD).before args s = true) (lN : (Cond.laysStatic Bundle.tN "SUPPRESSED_SENTINEL" Bundle.listD).before args s = true) : ∀ w ∈ L, w.before args s = true := by
  intro w hw
  by_cases e1 : w = .isRef (.static Bundle.tN "UNASSIGNED_STACK" Bundle.steD)
  · rw [e1]; exact hU
  · by_cases e2 : w = .isRef (.static Bundle.tN "SUPPRESSED_SENTINEL" Bundle.listD)
    · rw [e2]; exact hN
    · by_cases e3 : w = .laysStatic Bundle.tN "UNASSIGNED_STACK" Bundle.steD
      · rw [e3]; exact lU
      · by_cases e4 : w = .laysStatic Bundle.tN "SUPPRESSED_SENTINEL" Bundle.listD
        · rw [e4]; exact lN
        · exact h1 w (List.mem_filter.mpr ⟨hw, by unfold vx_no; rw [decide_eq_true e1, decide_eq_true e2, decide_eq_true e3, decide_eq_true e4]; rfl⟩)
/-- where a static field lies, its class's statics cell in H -/
def vx_L (C n d : String) (A : Nat → Prop) (U : State) (H : Heap) : Prop := ∃ (c : ClassId) (k : Class) (i : Nat) (f : Field) (a : Nat) (cell : Cell), U.vm.findClass C = some c ∧ U.fieldFound? C n d = some (c, k, i, f) ∧ f.isStatic = true ∧ k.statics = some a ∧ H[a]? = some cell ∧ cell.vm.isStatics = true ∧ cell.cls = c ∧ f.slot < cell.slots.size ∧ k.staticTypes[f.slot]? = some f.type ∧ ¬ A a
theorem vx_L.moved {C n d : String} {A : Nat → Prop} {u U : State} {H : Heap} (hvm : u.vm.Alike U.vm) (h : vx_L C n d A u H) : vx_L C n d A U H := by
  obtain ⟨c, k, i, f, a, cell, h1, h2, h3, h4, h5, h6, h7, h8, h9, h10⟩ := h
  obtain ⟨k', hi', he⟩ := State.fieldFound?_setVm hvm h2
  exact ⟨c, k', i, f, a, cell, by rw [hvm.findClass]; exact h1, hi', h3, by rw [he]; exact h4, h5, h6, h7, h8, by rw [he]; exact h9, h10⟩
theorem vx_L.kept {C n d : String} {A : Nat → Prop} {U : State} {H H1 : Heap} (h : vx_L C n d A U H) (hq : ∀ a : Nat, a < H.size → ¬ A a → H1[a]? = H[a]?) : vx_L C n d A U H1 := by
  obtain ⟨c, k, i, f, a, cell, h1, h2, h3, h4, h5, h6, h7, h8, h9, h10⟩ := h
  exact ⟨c, k, i, f, a, cell, h1, h2, h3, h4, by rw [hq a (Array.getElem?_eq_some_iff.mp h5).1 h10]; exact h5, h6, h7, h8, h9, h10⟩
theorem vx_L.narrow {C n d : String} {A B : Nat → Prop} {U : State} {H : Heap} (h : vx_L C n d A U H) (hAB : ∀ q, B q → A q) : vx_L C n d B U H := by
  obtain ⟨c, k, i, f, a, cell, h1, h2, h3, h4, h5, h6, h7, h8, h9, h10⟩ := h
  exact ⟨c, k, i, f, a, cell, h1, h2, h3, h4, h5, h6, h7, h8, h9, fun z => h10 (hAB _ z)⟩
theorem vx_L.word {C n d : String} {A : Nat → Prop} {s : State} {args : Array Value} (h : vx_L C n d A s s.heap) : (Cond.laysStatic C n d).before args s = true := by
  obtain ⟨c, k, i, f, a, cell, h1, h2, h3, h4, h5, h6, h7, h8, h9, -⟩ := h
  show (Cond.laysStatic C n d).holds args s none s [] = true
  exact Cond.laysStatic_of h1 h2 h3 h4 h5 h6 h7 h8 h9
/-- .. and what it holds: null or some reference -/
def vx_Zq (C n d : String) (A : Nat → Prop) (U : State) (H : Heap) : Prop := va_Zq C n d A U H ∧ vx_L C n d A U H
theorem vx_Zq.moved {C n d : String} {A : Nat → Prop} {u U : State} {H : Heap} (hvm : u.vm.Alike U.vm) (h : vx_Zq C n d A u H) : vx_Zq C n d A U H := ⟨va_Zq.moved hvm h.1, vx_L.moved hvm h.2⟩
theorem vx_Zq.kept {C n d : String} {A : Nat → Prop} {U : State} {H H1 : Heap} (h : vx_Zq C n d A U H) (hq : ∀ a : Nat, a < H.size → ¬ A a → H1[a]? = H[a]?) : vx_Zq C n d A U H1 := ⟨va_Zq.kept h.1 hq, vx_L.kept h.2 hq⟩
theorem vx_Zq.narrow {C n d : String} {A B : Nat → Prop} {U : State} {H : Heap} (h : vx_Zq C n d A U H) (hAB : ∀ q, B q → A q) : vx_Zq C n d B U H := ⟨va_Zq.narrow h.1 hAB, vx_L.narrow h.2 hAB⟩
theorem vx_Zqof {args : Array Value} {s : State} {C n d : String} {A : Nat → Prop} (hl : (Cond.laysStatic C n d).before args s = true) (hini : (Cond.initialized C).before args s = true) (h : (Cond.isRef (.static C n d)).before args s = true) (hA : ∀ a : Nat, a < s.heap.size → ¬ A a) : vx_Zq C n d A s s.heap := by
  refine ⟨va_Zqof hl hini h hA, ?_⟩
  obtain ⟨c, k, i, f, a, cell, h1, h2, h3, h4, h5, h6, h7, h8, h9⟩ := Cond.laysStatic_spec hl
  exact ⟨c, k, i, f, a, cell, h1, h2, h3, h4, h5, h6, h7, h8, h9, hA a (Array.getElem?_eq_some_iff.mp h5).1⟩
theorem vx_isRef {C n d : String} {v : Value} {A : Nat → Prop} {s : State} {args : Array Value} (h : va_Z C n d v A s s.heap) (hv : v.isRef = true) : (Cond.isRef (.static C n d)).before args s = true := by
  obtain ⟨cf, kf, fi, f, a, cell, h1, h2, h3, h4, h5, h6, h7, -⟩ := h
  have he : (Term.static C n d).eval args s none [] s = some v := by
    simp [Term.eval, State.fieldNamed?, h1, h2, h4, h5, h6, h7]
  simp only [Cond.before, Cond.holds, Cond.value, he]
  cases v <;> simp_all [Value.isRef]
theorem vx_isRefq {C n d : String} {A : Nat → Prop} {s : State} {args : Array Value} (h : va_Zq C n d A s s.heap) : (Cond.isRef (.static C n d)).before args s = true := by
  rcases h with h | ⟨t, h⟩
  · exact vx_isRef h rfl
  · exact vx_isRef h rfl
/-- the same frame, seen from here: as if the method were called anew in this heap -/
theorem vx_rebase {T : State} (X : Stand p l e R s m args below meth c T locs cells slots) {R' : Room} (hf : R'.frames ≤ R.frames) (hl : R'.locals ≤ R.locals) (hc : cells + R'.cells ≤ R.cells) (hs : slots + R'.slots ≤ R.slots) :
    Stand p l e R' ((T.setVm s.vm).setFrames (.invoking m args :: below)) m args below meth c T [] 0 0 := by
  have htop : (T.setVm s.vm).topJava?.isSome := X.here.top
  have hF : ((T.setVm s.vm).setFrames (.invoking m args :: below)).frames = .invoking m args :: below := State.frames_setFrames _ (State.cur_lt_of_top htop)
  obtain ⟨g₀, hg0⟩ := Option.isSome_iff_exists.mp htop
  obtain ⟨r, hr⟩ := State.topJava?_eq_some.mp hg0
  have hl9 : e.platform.stackLimits (T.setVm s.vm).me = e.platform.stackLimits s.me := X.limits
  have hb9 : (T.setVm s.vm).me.stackBytes = s.me.stackBytes := X.bytes
  refine ⟨X.admits, X.cas, X.clock, hF, ?_, X.hears, X.method, X.code, X.here, X.tail, X.warmed, ?_, ?_, ?_⟩
  · have h := X.room
    have hU : ((T.setVm s.vm).setFrames (.invoking m args :: below)).localsInUse = s.localsInUse := by
      rw [State.localsInUse_invoking hF (meth := meth) (c := c) X.method X.code, State.localsInUse_invoking X.frames X.method X.code]
    simp only [State.hasRoom, Bool.and_eq_true, decide_eq_true_eq] at h ⊢
    obtain ⟨⟨⟨⟨h1, h2, h3, h4, h5, h6⟩, h7⟩, h8⟩, h9⟩ := h
    rw [X.frames, List.length_cons] at h2 h3
    have q1 := X.heapSize
    have q2 := X.used
    simp only [hF, hU, List.length_cons, State.stackLimits_setFrames, State.stackBytes_setFrames, hl9, hb9]
    refine ⟨⟨⟨⟨by omega, by omega, by omega, by omega, by omega, h6⟩, ?_⟩, ?_⟩, X.book⟩
    · show T.heap.size + R'.cells ≤ e.platform.maxCells
      omega
    · show T.slotsUsed + R'.slots ≤ e.platform.maxSlots
      omega
  · rw [State.stackLimits_setFrames]; rfl
  · rw [State.stackBytes_setFrames]; rfl
  · refine ⟨?_, Nat.le_refl _, Nat.le_refl _, ?_, ?_, fun a c9 h9 => ⟨c9, h9, rfl, rfl, fun _ _ => rfl⟩⟩
    · obtain ⟨t, ht, -⟩ := State.frames_cons hr
      show T.setVm s.vm = { ((T.setVm s.vm).setFrames (.invoking m args :: below)).setFrames (T.setVm s.vm).frames with heap := T.heap, slotsUsed := T.slotsUsed }
      rw [State.setFrames_setFrames, State.setFrames_self ht]
      rfl
    · show T.slotsUsed = T.slotsUsed + ((T.heap.toList.drop T.heap.size).map (·.slots.size)).sum
      rw [List.drop_eq_nil_of_le (Nat.le_of_eq Array.length_toList)]
      rfl
    · show ((T.heap.toList.drop T.heap.size).map (·.slots.size)).sum ≤ 0
      rw [List.drop_eq_nil_of_le (Nat.le_of_eq Array.length_toList)]
      exact Nat.le_refl _
/-- 'throw new E()': new; dup; invokespecial; athrow -/
theorem vx_throw0 {cc : ByteArray} {pc : Nat} (hexec : p.tables.exec = Jvm.exec) (hb : c.code = cc) (hl : l.stackTraces = false) {own cls : String} {names : List String} {ik ic mc ms : Nat} {A : Nat → Prop}
    (hown : s.vm.findClass own = some m.cls) (hcls : Bundle.fit cls = true) (hnames : ∀ n ∈ names, Bundle.fit n = true)
    (hk : (Cond.classLink own ik cls).before args s = true) (hini : (Cond.initialized cls).before args s = true) (hat : ∀ w ∈ vx_at0 own ic cls names, w.before args s = true)
    (hgood : ∀ w ∈ Cond.classLink own ik cls :: Cond.initialized cls :: vx_at0 own ic cls names, vx_ot w = true)
    (hU : vx_Zq Bundle.tN "UNASSIGNED_STACK" Bundle.steD A s s.heap) (hN : vx_Zq Bundle.tN "SUPPRESSED_SENTINEL" Bundle.listD A s s.heap) (hS : va_S A s.heap H locs) (hsize : ls.size = c.maxLocals)
    (d0 : decode cc pc = .ok (.new ik, 3)) (d3 : decode cc (pc + 3) = .ok (.dup, 1)) (d4 : decode cc (pc + 4) = .ok (.invokespecial ic, 3)) (d7 : decode cc (pc + 7) = .ok (.athrow, 1))
    (hout : ∀ x ∈ c.exceptionTable.toList, covers x (pc + 7) = false)
    (hRframes : names.length + 3 < R.frames) (hRlocals : (rest.map fun v => v.category).sum + (13 * (names.length + 1) + 42) ≤ R.locals) (hRcells : cells + 1 ≤ R.cells) (hRslots : slots + 6 ≤ R.slots) (hlocks : meth.locks = false)
    (hx : ∀ t : State, s.vm.Alike t.vm → H.size ≤ t.heap.size → (∀ q : Nat, q < H.size → t.heap[q]? = H[q]?) → XC cls s t)
    (hf : ∀ z ∈ locs, free z.base) (hc : cells + 1 ≤ mc) (hs : slots + 6 ≤ ms) :
    W p l e R s m args below meth c H locs cells slots (vx_MQ below Qc XC args s mc ms free) (F0 m pc ls rest) := by
  intro T hT X
  have htr : e.platform.stackTraces = false := (show e.platform.stackTraces = l.stackTraces by rw [X.admits.platform]).trans hl
  have Y := vx_rebase X (R' := { frames := R.frames, locals := R.locals, cells := 1, slots := 6 }) (Nat.le_refl _) (Nat.le_refl _) hRcells hRslots
  obtain ⟨s', hA⟩ : ∃ z, z = (T.setVm s.vm).setFrames (.invoking m args :: below) := ⟨_, rfl⟩
  rw [← hA] at Y
  have hvm : s'.vm = s.vm := by rw [hA]; rfl
  have hhp : s'.heap = H := by rw [hA]; exact hT
  have hW0 : s.WarmedH s'.vm := by rw [hvm]; exact State.WarmedH.refl s
  have hat' : ∀ w ∈ vx_at0 own ic cls names, w.before args s' = true := fun w hw => vx_ot_at hW0 hvm.symm (hgood w (List.mem_cons_of_mem _ (List.mem_cons_of_mem _ hw))) (hat w hw)
  have hk' : (Cond.classLink own ik cls).before args s' = true := vx_ot_at hW0 hvm.symm (hgood _ List.mem_cons_self) hk
  have hini' : (Cond.initialized cls).before args s' = true := vx_ot_at hW0 hvm.symm (hgood _ (List.mem_cons_of_mem _ List.mem_cons_self)) hini
  have hU' : vx_Zq Bundle.tN "UNASSIGNED_STACK" Bundle.steD A s' s'.heap := by rw [hhp]; exact vx_Zq.moved hW0.alike (hU.kept hS.2.1)
  have hN' : vx_Zq Bundle.tN "SUPPRESSED_SENTINEL" Bundle.listD A s' s'.heap := by rw [hhp]; exact vx_Zq.moved hW0.alike (hN.kept hS.2.1)
  have h : ∀ w ∈ Bundle.ownAtoms0 own ic cls names, w.before args s' = true := vx_own hat' (vx_isRefq hU'.1) (vx_isRefq hN'.1) hU'.2.word hN'.2.word
  have hown' : s'.vm.findClass own = some m.cls := by rw [hvm]; exact hown
  have hins : (Cond.instantiable cls 6).before args s' = true := h _ (by simp [Bundle.ownAtoms0])
  obtain ⟨vm₁, cX, kX, hfX, hkX, -, -, X₁, st1⟩ := Y.newCold hexec (own := own) (C := cls) (index := ik) (n := 6) hown' hk' hins hini'
    (g := F0 m pc ls rest) rfl (by rw [hb]; exact d0) (Nat.le_refl _) (Nat.le_refl _)
  generalize hT1 : (T.setVm vm₁).pushCell { cls := cX, slots := kX.instanceTypes.map defaultValue, vm := .none } = T1 at X₁ st1
  have hcat : (Value.ref T.heap.size).category = 1 := rfl
  have hcellA : T1.heap[T.heap.size]? = some (freshCell cX kX) := by rw [← hT1]; exact State.heap_pushCell_size _ _
  have d3' : decode c.code (pc + 3) = .ok (.dup, 1) := by rw [hb]; exact d3
  obtain ⟨U, hsteps, hrun, hend, hW, hsame, ce, hce, hO⟩ := X₁.ctorThrow0 hexec htr (own := own) (cls := cls) (names := names) (ic := ic) hown' hcls hnames h (fun x hx => nomatch hx) hfX hkX hcellA (by rw [hhp, hT]; exact Nat.le_refl _)
    (g := { method := m, pc := pc + 4, locals := ls, stack := .ref T.heap.size :: .ref T.heap.size :: rest, locked := none }) rfl hsize rfl rfl (rest := rest) rfl
    (by rw [hb]; exact d4) (by rw [hb]; exact d7) hout hRframes (by simp only [List.map_cons, List.sum_cons, hcat]; omega) hlocks
  obtain ⟨f1, f2⟩ := vx_frame hsame
  rw [hhp] at f1 f2
  have hWs : s.WarmedH U.vm := State.WarmedH.trans hW0 hW
  have hcl : s.vm.findClass cls = some ce.cls := by
    have h9 := hO.cls
    rw [hvm] at h9
    exact h9
  have hall : s.sameButNew ({ U with vm := s.vm } : State) locs mc ms := by
    subst hA
    obtain ⟨e1, e2⟩ := hsame
    rw [State.setFrames_setFrames] at e1
    have h2 : (T.setVm s.vm).sameButNew ({ U with vm := s.vm } : State) [] (0 + 1) (0 + 6) := ⟨e1, e2⟩
    have h3 := X.same.trans h2
    rw [List.append_nil] at h3
    exact h3.mono hc hs
  refine ⟨U, ?_, .threw T.heap.size, hrun, hend, Or.inr ⟨T.heap.size, rfl, cls, ce, locs, hx U hWs.alike f1 (fun q hq => f2 q hq (fun z hz => nomatch hz)), hce, hO.vm, hcl, hWs, hall, hf⟩⟩
  refine st1 _ ?_
  show Steps p.tables e below (T1.setTop { method := m, pc := pc + 3, locals := ls, stack := .ref T.heap.size :: rest, locked := none }) _
  jvm_step X₁.here [X₁.here.top, hexec, d3', Value.category]
  exact hsteps
/-- 'throw new E("text")': new; dup; ldc; invokespecial; athrow -/
theorem vx_throwS {cc : ByteArray} {pc : Nat} (hexec : p.tables.exec = Jvm.exec) (hb : c.code = cc) (hl : l.stackTraces = false) {own cls text : String} {names : List String} {ik is ic mc ms sa : Nat} {A : Nat → Prop}
    (hown : s.vm.findClass own = some m.cls) (hcls : Bundle.fit cls = true) (hnames : ∀ n ∈ names, Bundle.fit n = true)
    (hk : (Cond.classLink own ik cls).before args s = true) (hini : (Cond.initialized cls).before args s = true) (hstr : vk_R own is text sa s) (hat : ∀ w ∈ vx_atS own ic cls names, w.before args s = true)
    (hgood : ∀ w ∈ Cond.classLink own ik cls :: Cond.initialized cls :: vx_atS own ic cls names, vx_ot w = true)
    (hU : vx_Zq Bundle.tN "UNASSIGNED_STACK" Bundle.steD A s s.heap) (hN : vx_Zq Bundle.tN "SUPPRESSED_SENTINEL" Bundle.listD A s s.heap) (hS : va_S A s.heap H locs) (hsize : ls.size = c.maxLocals)
    (d0 : decode cc pc = .ok (.new ik, 3)) (d3 : decode cc (pc + 3) = .ok (.dup, 1)) (d4 : decode cc (pc + 4) = .ok (.ldc is, 2)) (d6 : decode cc (pc + 6) = .ok (.invokespecial ic, 3)) (d9 : decode cc (pc + 9) = .ok (.athrow, 1))
    (hout : ∀ x ∈ c.exceptionTable.toList, covers x (pc + 9) = false)
    (hRframes : names.length + 3 < R.frames) (hRlocals : (rest.map fun v => v.category).sum + (13 * (names.length + 1) + 43) ≤ R.locals) (hRcells : cells + 1 ≤ R.cells) (hRslots : slots + 6 ≤ R.slots) (hlocks : meth.locks = false)
    (hx : ∀ t : State, s.vm.Alike t.vm → H.size ≤ t.heap.size → (∀ q : Nat, q < H.size → t.heap[q]? = H[q]?) → XC cls s t)
    (hf : ∀ z ∈ locs, free z.base) (hc : cells + 1 ≤ mc) (hs : slots + 6 ≤ ms) :
    W p l e R s m args below meth c H locs cells slots (vx_MQ below Qc XC args s mc ms free) (F0 m pc ls rest) := by
  intro T hT X
  have htr : e.platform.stackTraces = false := (show e.platform.stackTraces = l.stackTraces by rw [X.admits.platform]).trans hl
  have Y := vx_rebase X (R' := { frames := R.frames, locals := R.locals, cells := 1, slots := 6 }) (Nat.le_refl _) (Nat.le_refl _) hRcells hRslots
  obtain ⟨s', hA⟩ : ∃ z, z = (T.setVm s.vm).setFrames (.invoking m args :: below) := ⟨_, rfl⟩
  rw [← hA] at Y
  have hvm : s'.vm = s.vm := by rw [hA]; rfl
  have hhp : s'.heap = H := by rw [hA]; exact hT
  have hW0 : s.WarmedH s'.vm := by rw [hvm]; exact State.WarmedH.refl s
  have hat' : ∀ w ∈ vx_atS own ic cls names, w.before args s' = true := fun w hw => vx_ot_at hW0 hvm.symm (hgood w (List.mem_cons_of_mem _ (List.mem_cons_of_mem _ hw))) (hat w hw)
  have hk' : (Cond.classLink own ik cls).before args s' = true := vx_ot_at hW0 hvm.symm (hgood _ List.mem_cons_self) hk
  have hini' : (Cond.initialized cls).before args s' = true := vx_ot_at hW0 hvm.symm (hgood _ (List.mem_cons_of_mem _ List.mem_cons_self)) hini
  have hU' : vx_Zq Bundle.tN "UNASSIGNED_STACK" Bundle.steD A s' s'.heap := by rw [hhp]; exact vx_Zq.moved hW0.alike (hU.kept hS.2.1)
  have hN' : vx_Zq Bundle.tN "SUPPRESSED_SENTINEL" Bundle.listD A s' s'.heap := by rw [hhp]; exact vx_Zq.moved hW0.alike (hN.kept hS.2.1)
  have h : ∀ w ∈ Bundle.ownAtoms own ic cls names, w.before args s' = true := vx_own hat' (vx_isRefq hU'.1) (vx_isRefq hN'.1) hU'.2.word hN'.2.word
  have hown' : s'.vm.findClass own = some m.cls := by rw [hvm]; exact hown
  have hins : (Cond.instantiable cls 6).before args s' = true := h _ (by simp [Bundle.ownAtoms])
  obtain ⟨vm₁, cX, kX, hfX, hkX, -, -, X₁, st1⟩ := Y.newCold hexec (own := own) (C := cls) (index := ik) (n := 6) hown' hk' hins hini'
    (g := F0 m pc ls rest) rfl (by rw [hb]; exact d0) (Nat.le_refl _) (Nat.le_refl _)
  generalize hT1 : (T.setVm vm₁).pushCell { cls := cX, slots := kX.instanceTypes.map defaultValue, vm := .none } = T1 at X₁ st1
  have hcat : (Value.ref T.heap.size).category = 1 := rfl
  have hcellA : T1.heap[T.heap.size]? = some (freshCell cX kX) := by rw [← hT1]; exact State.heap_pushCell_size _ _
  have d3' : decode c.code (pc + 3) = .ok (.dup, 1) := by rw [hb]; exact d3
  have d4' : decode c.code (pc + 4) = .ok (.ldc is, 2) := by rw [hb]; exact d4
  have hstr' : vk_R own is text sa s' := vk_R.warm hW0 hstr
  obtain ⟨U, hsteps, hrun, hend, hW, hsame, ce, hce, hO⟩ := X₁.ctorThrowS hexec htr (own := own) (cls := cls) (names := names) (ic := ic) hown' hcls hnames h (fun x hx => nomatch hx) hfX hkX hcellA (by rw [hhp, hT]; exact Nat.le_refl _) (msg := .ref sa) rfl
    (g := { method := m, pc := pc + 6, locals := ls, stack := .ref sa :: .ref T.heap.size :: .ref T.heap.size :: rest, locked := none }) rfl hsize rfl rfl (rest := rest) rfl
    (by rw [hb]; exact d6) (by rw [hb]; exact d9) hout hRframes (by simp only [List.map_cons, List.sum_cons, hcat]; omega) hlocks
  obtain ⟨f1, f2⟩ := vx_frame hsame
  rw [hhp] at f1 f2
  have hWs : s.WarmedH U.vm := State.WarmedH.trans hW0 hW
  have hcl : s.vm.findClass cls = some ce.cls := by
    have h9 := hO.cls
    rw [hvm] at h9
    exact h9
  have hall : s.sameButNew ({ U with vm := s.vm } : State) locs mc ms := by
    subst hA
    obtain ⟨e1, e2⟩ := hsame
    rw [State.setFrames_setFrames] at e1
    have h2 : (T.setVm s.vm).sameButNew ({ U with vm := s.vm } : State) [] (0 + 1) (0 + 6) := ⟨e1, e2⟩
    have h3 := X.same.trans h2
    rw [List.append_nil] at h3
    exact h3.mono hc hs
  refine ⟨U, ?_, .threw T.heap.size, hrun, hend, Or.inr ⟨T.heap.size, rfl, cls, ce, locs, hx U hWs.alike f1 (fun q hq => f2 q hq (fun z hz => nomatch hz)), hce, hO.vm, hcl, hWs, hall, hf⟩⟩
  refine st1 _ ?_
  show Steps p.tables e below (T1.setTop { method := m, pc := pc + 3, locals := ls, stack := .ref T.heap.size :: rest, locked := none }) _
  jvm_step X₁.here [X₁.here.top, hexec, d3', Value.category]
  exact X₁.ldcString hexec (own := own) (text := text) (index := is) (a := sa) hown' hstr'.1 hstr'.2
    (g := { method := m, pc := pc + 4, locals := ls, stack := .ref T.heap.size :: .ref T.heap.size :: rest, locked := none }) rfl d4' _ hsteps
/-- 'throw new E("text")', the text by a wide index -/
theorem vx_throwSW {cc : ByteArray} {pc : Nat} (hexec : p.tables.exec = Jvm.exec) (hb : c.code = cc) (hl : l.stackTraces = false) {own cls text : String} {names : List String} {ik is ic mc ms sa : Nat} {A : Nat → Prop}
    (hown : s.vm.findClass own = some m.cls) (hcls : Bundle.fit cls = true) (hnames : ∀ n ∈ names, Bundle.fit n = true)
    (hk : (Cond.classLink own ik cls).before args s = true) (hini : (Cond.initialized cls).before args s = true) (hstr : vk_R own is text sa s) (hat : ∀ w ∈ vx_atS own ic cls names, w.before args s = true)
    (hgood : ∀ w ∈ Cond.classLink own ik cls :: Cond.initialized cls :: vx_atS own ic cls names, vx_ot w = true)
    (hU : vx_Zq Bundle.tN "UNASSIGNED_STACK" Bundle.steD A s s.heap) (hN : vx_Zq Bundle.tN "SUPPRESSED_SENTINEL" Bundle.listD A s s.heap) (hS : va_S A s.heap H locs) (hsize : ls.size = c.maxLocals)
    (d0 : decode cc pc = .ok (.new ik, 3)) (d3 : decode cc (pc + 3) = .ok (.dup, 1)) (d4 : decode cc (pc + 4) = .ok (.ldc_w is, 3)) (d7 : decode cc (pc + 7) = .ok (.invokespecial ic, 3)) (d10 : decode cc (pc + 10) = .ok (.athrow, 1))
    (hout : ∀ x ∈ c.exceptionTable.toList, covers x (pc + 10) = false)
    (hRframes : names.length + 3 < R.frames) (hRlocals : (rest.map fun v => v.category).sum + (13 * (names.length + 1) + 43) ≤ R.locals) (hRcells : cells + 1 ≤ R.cells) (hRslots : slots + 6 ≤ R.slots) (hlocks : meth.locks = false)
    (hx : ∀ t : State, s.vm.Alike t.vm → H.size ≤ t.heap.size → (∀ q : Nat, q < H.size → t.heap[q]? = H[q]?) → XC cls s t)
    (hf : ∀ z ∈ locs, free z.base) (hc : cells + 1 ≤ mc) (hs : slots + 6 ≤ ms) :
    W p l e R s m args below meth c H locs cells slots (vx_MQ below Qc XC args s mc ms free) (F0 m pc ls rest) := by
  intro T hT X
  have htr : e.platform.stackTraces = false := (show e.platform.stackTraces = l.stackTraces by rw [X.admits.platform]).trans hl
  have Y := vx_rebase X (R' := { frames := R.frames, locals := R.locals, cells := 1, slots := 6 }) (Nat.le_refl _) (Nat.le_refl _) hRcells hRslots
  obtain ⟨s', hA⟩ : ∃ z, z = (T.setVm s.vm).setFrames (.invoking m args :: below) := ⟨_, rfl⟩
  rw [← hA] at Y
  have hvm : s'.vm = s.vm := by rw [hA]; rfl
  have hhp : s'.heap = H := by rw [hA]; exact hT
  have hW0 : s.WarmedH s'.vm := by rw [hvm]; exact State.WarmedH.refl s
  have hat' : ∀ w ∈ vx_atS own ic cls names, w.before args s' = true := fun w hw => vx_ot_at hW0 hvm.symm (hgood w (List.mem_cons_of_mem _ (List.mem_cons_of_mem _ hw))) (hat w hw)
  have hk' : (Cond.classLink own ik cls).before args s' = true := vx_ot_at hW0 hvm.symm (hgood _ List.mem_cons_self) hk
  have hini' : (Cond.initialized cls).before args s' = true := vx_ot_at hW0 hvm.symm (hgood _ (List.mem_cons_of_mem _ List.mem_cons_self)) hini
  have hU' : vx_Zq Bundle.tN "UNASSIGNED_STACK" Bundle.steD A s' s'.heap := by rw [hhp]; exact vx_Zq.moved hW0.alike (hU.kept hS.2.1)
  have hN' : vx_Zq Bundle.tN "SUPPRESSED_SENTINEL" Bundle.listD A s' s'.heap := by rw [hhp]; exact vx_Zq.moved hW0.alike (hN.kept hS.2.1)
  have h : ∀ w ∈ Bundle.ownAtoms own ic cls names, w.before args s' = true := vx_own hat' (vx_isRefq hU'.1) (vx_isRefq hN'.1) hU'.2.word hN'.2.word
  have hown' : s'.vm.findClass own = some m.cls := by rw [hvm]; exact hown
  have hins : (Cond.instantiable cls 6).before args s' = true := h _ (by simp [Bundle.ownAtoms])
  obtain ⟨vm₁, cX, kX, hfX, hkX, -, -, X₁, st1⟩ := Y.newCold hexec (own := own) (C := cls) (index := ik) (n := 6) hown' hk' hins hini'
    (g := F0 m pc ls rest) rfl (by rw [hb]; exact d0) (Nat.le_refl _) (Nat.le_refl _)
  generalize hT1 : (T.setVm vm₁).pushCell { cls := cX, slots := kX.instanceTypes.map defaultValue, vm := .none } = T1 at X₁ st1
  have hcat : (Value.ref T.heap.size).category = 1 := rfl
  have hcellA : T1.heap[T.heap.size]? = some (freshCell cX kX) := by rw [← hT1]; exact State.heap_pushCell_size _ _
  have d3' : decode c.code (pc + 3) = .ok (.dup, 1) := by rw [hb]; exact d3
  have d4' : decode c.code (pc + 4) = .ok (.ldc_w is, 3) := by rw [hb]; exact d4
  have hstr' : vk_R own is text sa s' := vk_R.warm hW0 hstr
  obtain ⟨U, hsteps, hrun, hend, hW, hsame, ce, hce, hO⟩ := X₁.ctorThrowS hexec htr (own := own) (cls := cls) (names := names) (ic := ic) hown' hcls hnames h (fun x hx => nomatch hx) hfX hkX hcellA (by rw [hhp, hT]; exact Nat.le_refl _) (msg := .ref sa) rfl
    (g := { method := m, pc := pc + 7, locals := ls, stack := .ref sa :: .ref T.heap.size :: .ref T.heap.size :: rest, locked := none }) rfl hsize rfl rfl (rest := rest) rfl
    (by rw [hb]; exact d7) (by rw [hb]; exact d10) hout hRframes (by simp only [List.map_cons, List.sum_cons, hcat]; omega) hlocks
  obtain ⟨f1, f2⟩ := vx_frame hsame
  rw [hhp] at f1 f2
  have hWs : s.WarmedH U.vm := State.WarmedH.trans hW0 hW
  have hcl : s.vm.findClass cls = some ce.cls := by
    have h9 := hO.cls
    rw [hvm] at h9
    exact h9
  have hall : s.sameButNew ({ U with vm := s.vm } : State) locs mc ms := by
    subst hA
    obtain ⟨e1, e2⟩ := hsame
    rw [State.setFrames_setFrames] at e1
    have h2 : (T.setVm s.vm).sameButNew ({ U with vm := s.vm } : State) [] (0 + 1) (0 + 6) := ⟨e1, e2⟩
    have h3 := X.same.trans h2
    rw [List.append_nil] at h3
    exact h3.mono hc hs
  refine ⟨U, ?_, .threw T.heap.size, hrun, hend, Or.inr ⟨T.heap.size, rfl, cls, ce, locs, hx U hWs.alike f1 (fun q hq => f2 q hq (fun z hz => nomatch hz)), hce, hO.vm, hcl, hWs, hall, hf⟩⟩
  refine st1 _ ?_
  show Steps p.tables e below (T1.setTop { method := m, pc := pc + 3, locals := ls, stack := .ref T.heap.size :: rest, locked := none }) _
  jvm_step X₁.here [X₁.here.top, hexec, d3', Value.category]
  exact X₁.ldcStringW hexec (own := own) (text := text) (index := is) (a := sa) hown' hstr'.1 hstr'.2
    (g := { method := m, pc := pc + 4, locals := ls, stack := .ref T.heap.size :: .ref T.heap.size :: rest, locked := none }) rfl d4' _ hsteps
end Ends
section Bodies
variable {l : Launch}
theorem vx_ofW {y : MethodName} {ws ws' : List Cond} {rm : Room} {Pc : Array Value → State → Prop} {Qc : Array Value → State → Outcome → State → Prop} {XC : String → State → State → Prop} {mc ms : Nat} {free : Addr → Prop} {cc : ByteArray} {maxL : Nat} {ret : Option FieldType}
    (hy : plainName y.cls = true) (hw : ws = Cond.code y cc maxL ret :: ws')
    (body : ∀ p e s m args below meth c s₁, BodyLoose p l y (headSpec ws rm) cc maxL ret e s m args below meth c s₁ → c.maxLocals = maxL → (∀ x ∈ c.exceptionTable.toList, False) → Pc args s →
      W p l e (headSpec ws rm).room s m args below meth c s.heap [] 0 0 (vx_MQ below Qc XC args s mc ms free) (entryFrame m args maxL)) : vx_Met l y ws rm Pc Qc XC mc ms free := by
  refine MetFree.of_bodyS (code := cc) (maxLocals := maxL) (ret := ret) hy ?_ ?_
  · intro args s m h hn
    obtain ⟨meth, c, h1, h2, h3, h4, h5, h6, -, -⟩ := Cond.code_spec hn (atoms_spec (ws := ws) h _ (by rw [hw]; exact List.mem_cons_self))
    exact ⟨meth, c, h1, h2, h3, h4, h5, h6⟩
  · intro p e s m args below meth c s₁ B hml hP _
    have hh0 : s₁.heap = s.heap := by rw [B.state]; rfl
    have ht : ∀ x ∈ c.exceptionTable.toList, False := by
      obtain ⟨meth9, c9, h1, h2, -, -, -, -, h7, -⟩ := Cond.code_spec B.named (atoms_spec (ws := ws) B.pre _ (by rw [hw]; exact List.mem_cons_self))
      cases Option.some.inj (h1.symm.trans B.method)
      cases Option.some.inj (h2.symm.trans (Stand.of_body B).code)
      intro x hx
      rw [Array.isEmpty_iff.mp h7] at hx
      cases hx
    obtain ⟨t, a1, o, b1, b2, b3⟩ := body p e s m args below meth c s₁ B hml ht hP s₁ hh0 (Stand.of_body B)
    exact ⟨t, o, a1, b1, b2, b3⟩
/-- the table of a body with handlers -/
theorem vx_table {p : Program} {x y : MethodName} {S : Spec} {cc bytes : ByteArray} {maxL maxL' : Nat} {ret ret' : Option FieldType} {e : Env} {s s₁ : State} {m : MethodId} {args : Array Value} {below : List Frame} {meth : Method} {c : Code} {hh : List (Nat × Nat × Nat × Nat)}
    (B : BodyLoose p l y S cc maxL ret e s m args below meth c s₁) (h : (Cond.codeWith y bytes maxL' ret' hh).before args s = true) : c.exceptionTable.toList = tableOf hh := by
  obtain ⟨m9, meth9, c9, hn9, h1, h2, -, -, h6, -⟩ := Cond.codeWith_spec h
  cases Option.some.inj (hn9.symm.trans B.named)
  cases Option.some.inj (h1.symm.trans B.method)
  cases Option.some.inj (h2.symm.trans (Stand.of_body B).code)
  rw [← h6, table_eq]
end Bodies
end VXA
/-! ===== END ===== -/
/-! ===== BEGIN a static call of a method with an exception table ===== -/
section VXS
variable {p : Program} {l : Launch} {e : Env} {R : Room} {s : State} {m : MethodId} {args : Array Value} {below : List Frame} {meth : Method} {c : Code} {T : State} {H : Heap} {locs : List Loc} {cells slots : Nat}
abbrev vx_CSW (R : Room) (s : State) (args : Array Value) (own : String) (index : Nat) (y : MethodName) (bytes : ByteArray) (maxL : Nat) (ret : Option FieldType) (hh : List (Nat × Nat × Nat × Nat)) (ws : List Cond) (rm : Room) (mc ms n : Nat) : Prop :=
  (rm.cells = mc ∧ rm.slots = ms ∧ rm.frames + 1 ≤ R.frames ∧ 8 + (maxL + 11) + rm.locals ≤ R.locals ∧ (∀ w ∈ ws, ∀ (a' : Array Value) (U : State), s.WarmedH U.vm → w.before a' U = true) ∧ Cond.codeWith y bytes maxL ret hh ∈ ws) ∧
  (Cond.codeWith y bytes maxL ret hh).before args s = true ∧ (Cond.initialized y.cls).before args s = true ∧ (y.cls ≠ "java/lang/invoke/MethodHandle" ∧ y.cls ≠ "java/lang/invoke/VarHandle") ∧
  (∀ sig, parseMethodDescriptor y.desc = some sig → n = sig.parameters.length) ∧ (Cond.methodLink own index y).before args s = true ∧ (Cond.static y).before args s = true
theorem vx_cwSW {own : String} {index maxL mc ms : Nat} {y : MethodName} {bytes : ByteArray} {ret : Option FieldType} {hh : List (Nat × Nat × Nat × Nat)} {Ts ws ws' : List Cond} {rm : Room} (n : Nat) (ht : ∀ w ∈ Ts, w.before args s = true) (hT : GoodIn Ts (va_wsS own index y ws)) (hw : ws = Cond.codeWith y bytes maxL ret hh :: ws') (hrc : rm.cells = mc) (hrs : rm.slots = ms)
    (hd : y.cls ≠ "java/lang/invoke/MethodHandle" ∧ y.cls ≠ "java/lang/invoke/VarHandle" ∧ (parseMethodDescriptor y.desc).map (fun d => d.parameters.length) = some n) (hR : rm.frames + 1 ≤ R.frames ∧ 8 + (maxL + 11) + rm.locals ≤ R.locals) :
    vx_CSW R s args own index y bytes maxL ret hh ws rm mc ms n := by
  have ok : ∀ w ∈ va_wsS own index y ws, w.before args s = true := fun w h => ht w (hT w h).1
  have hG : GoodIn Ts ws := fun w h => hT w (by unfold va_wsS; exact List.mem_append_right _ h)
  have hc : Cond.codeWith y bytes maxL ret hh ∈ ws := by rw [hw]; exact List.mem_cons_self
  refine ⟨⟨hrc, hrs, hR.1, hR.2, pay_in ht hG, hc⟩, ht _ (hG _ hc).1, ok _ (by simp [va_wsS]), ⟨hd.1, hd.2.1⟩, fun sig h => ?_, ok _ (by simp [va_wsS]), ok _ (by simp [va_wsS])⟩
  have h2 := hd.2.2
  rw [h] at h2
  exact (Option.some.inj h2).symm
theorem vx_callSW (X : Stand p l e R s m args below meth c T locs cells slots) (hexec : p.tables.exec = Jvm.exec) {own : String} {index : Nat} {y : MethodName} {bytes : ByteArray} {maxL : Nat} {ret : Option FieldType} {hh : List (Nat × Nat × Nat × Nat)}
    (hown : s.vm.findClass own = some m.cls) (hlink : (Cond.methodLink own index y).before args s = true) (hstat : (Cond.static y).before args s = true) (hinit : (Cond.initialized y.cls).before args s = true)
    (hcode : (Cond.codeWith y bytes maxL ret hh).before args s = true) (hy : y.cls ≠ "java/lang/invoke/MethodHandle" ∧ y.cls ≠ "java/lang/invoke/VarHandle")
    {W9 : Nat} {Pre : Pt → Array Value → Prop} {Post : Pt → Array Value → Option Value → Pt → Prop} (hK : Back l R p e below s args y 3 W9 Pre Post)
    {g : JFrame} (hg : g.method = m) (hsize : g.locals.size = c.maxLocals) {argsL rest : List Value} (hlen : ∀ sig, parseMethodDescriptor y.desc = some sig → argsL.length = sig.parameters.length)
    (hstack : g.stack = argsL.reverse ++ rest) (hW : 2 * g.monitorRoom + (rest.map fun v => v.category).sum ≤ W9) (hdg : decode c.code g.pc = .ok (.invokestatic index, 3))
    (hpre : ∀ vm₁, s.WarmedH vm₁ → Pre ⟨T.setVm vm₁, locs, cells, slots⟩ argsL.toArray) :
    ∃ (v : Option Value) (vm₁ : Vm) (B : Pt), s.WarmedH vm₁ ∧ Stand p l e R s m args below meth c B.U B.locs B.cells B.slots ∧ Post ⟨T.setVm vm₁, locs, cells, slots⟩ argsL.toArray v B ∧
      ∀ target, Steps p.tables e below (B.U.setTop { g with pc := g.pc + 3, stack := v.toList ++ rest }) target → Steps p.tables e below (T.setTop g) target := by
  obtain ⟨mk, methM, cM, hnamed, hmethM, -, -, -, -, -, -, hsigM⟩ := Cond.codeWith_spec hcode
  have hstatic : methM.isStatic = true := Cond.static_spec hnamed hmethM hstat
  obtain ⟨kP, hkP, -⟩ := className_of_methodNamed hnamed
  have hinitP : kP.init = .initialized := Cond.initialized_spec (findClass_of_methodNamed hnamed) hkP hinit
  obtain ⟨vm₁, X₁, hstep₁⟩ := X.invokestatic hexec hown hlink hnamed hmethM hstatic hkP hinitP hy (g := g) hg (argsL := argsL) (rest := rest) (hlen _ hsigM) hstack hdg
  obtain ⟨v, B, X', hpost, hsteps⟩ := hK m meth c ⟨T.setVm vm₁, locs, cells, slots⟩ { g with stack := rest } (.invokestatic index) mk argsL.toArray X₁ hg hsize hdg hW (X₁.named hnamed) (hpre vm₁ X₁.warmed)
  exact ⟨v, vm₁, B, X₁.warmed, X', hpost, fun target h => hstep₁ _ fun acts => by rw [doInvoke_state]; exact hsteps.trans h⟩
theorem vx_runSW {y : MethodName} {bytes cc : ByteArray} {maxL nL mc ms n index : Nat} {ret : Option FieldType} {hh : List (Nat × Nat × Nat × Nat)} {ws : List Cond} {rm : Room} {Pc : Array Value → State → Prop} {Qc : Array Value → State → Outcome → State → Prop} {free : Addr → Prop} {Ts : List Cond} {own : String} {As rest : List Value} {g : JFrame}
    (S : CallFix p m c cc nL s args Ts own) (hM : Met l y ws rm Pc Qc mc ms free) (cw : vx_CSW R s args own index y bytes maxL ret hh ws rm mc ms n) (hp : PreS s H Pc As)
    (hg : g.method = m) (hn : As.length = n) (hsize : g.locals.size = nL) (hstack : g.stack = As.reverse ++ rest) (hW : 2 * g.monitorRoom + (rest.map fun v => v.category).sum ≤ 8) (hdg : decode cc g.pc = .ok (.invokestatic index, 3)) (hf : cells + mc ≤ R.cells ∧ slots + ms ≤ R.slots) :
    va_Run p l e R s m args below meth c H locs cells slots mc ms g rest (Qc As.toArray) (free) := by
  obtain ⟨⟨hrc, hrs, hfr, hlo, hws, hcw⟩, hcode, hini, hy, hlen, hl, hstt⟩ := cw
  have hK : Back l R p e below s args y 3 8 (PreOf R mc ms Pc) (PostOf Qc mc ms free) := va_backW (hh := hh) (bytes := bytes) (maxL := maxL) (ret := ret) hM hp.1 hrc hrs hfr hlo hws hcw (fun a' U hW => word_at hW (Or.inl (by first | rfl | simp [Cond.onTables, Cond.keeps, Cond.steady])) hini)
  obtain ⟨hx, hb, hml, ho, -⟩ := S
  intro T hT X
  obtain ⟨v, vm₁, ⟨U', l2, c2, s2⟩, hW₁, X', ⟨g', mk, t, L, e1, e2, hq, h1, hL, h2, h3⟩, st⟩ := vx_callSW X hx (hh := hh) (bytes := bytes) (maxL := maxL) (ret := ret) ho hl hstt hini hcode hy hK hg (hsize.trans hml.symm) (argsL := As) (rest := rest) (fun sig h => hn.trans (hlen sig h)) hstack hW (by rw [hb]; exact hdg)
    (fun vm₁ hW₁ => ⟨hf.1, hf.2, hp.2 (T.setVm vm₁) hT hW₁⟩)
  dsimp only [Pt.U, Pt.locs, Pt.cells, Pt.slots] at X' e1 e2 h1 h2 h3 st
  subst h1; subst h2; subst h3
  exact ⟨v, (T.setVm vm₁).calling g' mk As.toArray, t, U', L, hT, X', hL, e1, e2, hq, st⟩
/-- not caught here, past rows that name other classes: it goes on to the caller -/
theorem vx_outP {p : Program} {l : Launch} {e : Env} {R : Room} {s : State} {m : MethodId} {args : Array Value} {below : List Frame} {meth : Method} {c : Code} {H : Heap} {locs : List Loc} {cells slots : Nat} {free : Addr → Prop} {ls : Array Slot} {rest : List Value} {Qc : Array Value → State → Outcome → State → Prop} {XC : String → State → State → Prop}
    {pc : Nat} {own E : String} {ce : Cell} {q : Addr} {mc ms : Nat} (hown : s.vm.findClass own = some m.cls) (hlocks : meth.locks = false)
    (hpass : ∀ z ∈ c.exceptionTable.toList, covers z pc = false ∨ (z.catchType ≠ 0 ∧ ∃ nm : String, (Cond.classLink own z.catchType nm).before args s = true ∧ va_Nc E nm s)) (hcell : H[q]? = some ce) (hv : ce.vm = .none) (hcl : s.vm.findClass E = some ce.cls)
    (hx : ∀ t : State, t.heap = H → s.vm.Alike t.vm → XC E s t) (hf : ∀ z ∈ locs, free z.base) (hc : cells ≤ mc) (hs : slots ≤ ms) :
    vx_W p l e R s m args below meth c H locs cells slots (vx_MQ below Qc XC args s mc ms free) (F0 m pc ls rest) q := by
  intro T hT X
  have hpl : e.platform.magicAccessors = ({} : Platform).magicAccessors := by rw [X.admits.platform]
  obtain ⟨vm', hW', X', st⟩ := X.outThrough hlocks q (g := F0 m pc ls rest) rfl rfl rfl (cell := ce) (by rw [hT]; exact hcell) (by rw [hv]; rfl)
    (by obtain ⟨k9, h9, -⟩ := Vm.findClass_spec hcl; exact ⟨k9, h9⟩) (fun z hz => by
      rcases hpass z hz with h | ⟨hz0, nm, hl1, hn1⟩
      · exact Or.inl h
      · obtain ⟨c6, hc6, hcl6⟩ := Cond.classLink_spec hown hl1 e.platform hpl
        obtain ⟨a8, b8, h1, h2, h3⟩ := hn1
        cases Option.some.inj (h1.symm.trans hcl)
        cases Option.some.inj (h2.symm.trans hc6)
        exact Or.inr ⟨hz0, _, hcl6, h3⟩)
  obtain ⟨g₀, hfr⟩ := X'.frames_eq
  have hcell9 : ((T.setVm vm').setFrames (.throwing q :: below)).heap[q]? = some ce := by
    show T.heap[q]? = some ce
    rw [hT]; exact hcell
  have hend : Ended ((T.setVm vm').setFrames (.throwing q :: below)) below (.threw q) := State.frames_setFrames _ (State.cur_lt_of_frames hfr)
  refine ⟨(T.setVm vm').setFrames (.throwing q :: below), ?_, .threw q, X'.here.running, hend, Or.inr ⟨q, rfl, E, ce, locs, hx _ hT (X'.ends _).1.alike, hcell9, hv, hcl, (X'.ends _).1, (X'.ends _).2.mono hc hs, hf⟩⟩
  rw [X.pushThrowing_eq]
  exact st
/-- a thing of a world lies in the heap -/
theorem vx_lt {D : va_G} {cl : List vw_C} {ws : va_W} {H1 : Heap} (h : va_P D cl ws H1) {k : Nat} {q : Nat × va_E} (hk : ws[k]? = some q) : q.1 < H1.size := (h k q hk).lt
end VXS
/-! ===== END ===== -/
/-! ===== BEGIN methods with a table of their own: called by a name, returning or throwing ===== -/
section VXH
/-! vx_backW, vx_callVX, vx_callSX, vx_callVW, vx_runVW, vx_runVX, vx_runSX, vx_ofWH follow the same proofs as their sisters above (Free/Laws.lean, Shelf42/LK1.lean); vx_outP calls Shelf42/NT130.lean (outThrough). -/
section
variable {l : Launch} {R : Room} {p : Program} {e : Env} {below : List Frame} {s : State} {sargs : Array Value} {y : MethodName} {len W9 : Nat}
theorem vx_backW {ws : List Cond} {rm : Room} {Pc : Array Value → State → Prop} {Qc : Array Value → State → Outcome → State → Prop} {XC : String → State → State → Prop} {mc ms : Nat} {free : Addr → Prop} {bytes : ByteArray} {maxL : Nat} {ret : Option FieldType} {hh : List (Nat × Nat × Nat × Nat)}
    (hM : vx_Met l y ws rm Pc Qc XC mc ms free) (hblind : FrameBlind Pc) (hrc : rm.cells = mc) (hrs : rm.slots = ms)
    (hframes : rm.frames + 1 ≤ R.frames) (hlocals : W9 + (maxL + 11) + rm.locals ≤ R.locals)
    (hws : ∀ w ∈ ws, ∀ a' U, s.WarmedH U.vm → w.before a' U = true) (hcode : Cond.codeWith y bytes maxL ret hh ∈ ws) (hinit : ∀ a' U, s.WarmedH U.vm → (Cond.initialized y.cls).before a' U = true) :
    vx_Back l R p e below s sargs y len W9 (PreOf R mc ms Pc) (PostOf Qc mc ms free) (vx_Post XC mc ms free) := by
  intro m meth c A g ig mk a X hg hsize hdg hW hn hp
  have h1 : (headSpec ws rm).pre.before a A.U = true := atoms_intro fun w hw => hws w hw _ _ X.warmed
  have h2 : (Cond.codeWith y bytes maxL ret hh).before a A.U = true := hws _ hcode _ _ X.warmed
  have h3 : (Cond.initialized y.cls).before a A.U = true := hinit _ _ X.warmed
  have h4 : A.cells + (headSpec ws rm).room.cells ≤ R.cells := by rw [show (headSpec ws rm).room.cells = mc from hrc]; exact hp.1
  have h5 : A.slots + (headSpec ws rm).room.slots ≤ R.slots := by rw [show (headSpec ws rm).room.slots = ms from hrs]; exact hp.2.1
  have hPc : Pc a (A.U.calling g mk a) := hblind _ _ _ _ hp.2.2
  obtain ⟨U, Ls, c0, s0⟩ := A
  dsimp only [Pt.U, Pt.locs, Pt.cells, Pt.slots] at h1 h2 h3 h4 h5 X hn hPc ⊢
  obtain ⟨m9, methY, cY, hn9, hmY, hcY, -, hlY, -⟩ := Cond.codeWith_spec h2
  cases Option.some.inj (hn9.symm.trans hn)
  obtain ⟨kY, hkY, -⟩ := className_of_methodNamed hn
  have hinitY : kY.init = .initialized := Cond.initialized_spec (findClass_of_methodNamed hn) hkY h3
  have h : At U g.method c below := by rw [hg]; exact X.here
  have hlocals9 : W9 + (maxL + 11) + (headSpec ws rm).room.locals ≤ R.locals := hlocals
  have happ : (headSpec ws rm).appliesLoose y e.platform (U.calling g mk a) = true :=
    Spec.appliesLoose_calling (g := g) h hdg hn hkY hinitY
      (X.room_calling (g := g) (R' := (headSpec ws rm).room) hsize hmY hcY hframes (by rw [hlY]; omega) h4 h5) h1
  obtain ⟨mid, hmid⟩ := h.above
  have hfr : (U.setTop g).frames = (.java g :: mid) ++ below := by rw [State.frames_setTop' g h.top, hmid]; rfl
  obtain ⟨o, s₂, hsteps, -, hend, hq⟩ := Steps.callFree hM p X.admits X.cas X.clock (acts := []) hfr happ hPc trivial
  have hq' : vx_Q Qc XC mc ms free a (U.calling g mk a) o s₂ := hq
  rw [State.frames_setTop' g h.top] at hend
  obtain ⟨g₀, hg0⟩ := Option.isSome_iff_exists.mp h.top
  obtain ⟨r, hr⟩ := State.topJava?_eq_some.mp hg0
  have hr' : (({ U with heap := s₂.heap, slotsUsed := s₂.slotsUsed } : State).setVm s₂.vm).frames = .java g₀ :: r := hr
  rcases hq' with ⟨hqc, L, hfe, hL⟩ | ⟨q, rfl, E, ce, L, hx, hce, hcv, hcl, hW₂, hsm, hL⟩
  · obtain ⟨⟨v, rfl⟩, hW₂, e2, q2, q3, q4, q5, q6⟩ := id hfe
    have e3 : s₂ = ({ (U.calling g mk a).setFrames s₂.frames with heap := s₂.heap, slotsUsed := s₂.slotsUsed } : State).setVm s₂.vm := by
      have : s₂ = ({ s₂ with vm := (U.calling g mk a).vm } : State).setVm s₂.vm := rfl
      rw [e2] at this
      exact this
    obtain ⟨c₂, i₂, len₂, hc₂, hd₂, hf₂⟩ := hend
    have hW' : U.WarmedH s₂.vm := hW₂
    have hcc : c₂ = c := by
      have h1 : s₂.code? g.method = U.code? g.method := by
        rw [State.code?_eq, State.code?_eq, hW'.alike.method?]
      exact Option.some.inj (hc₂.symm.trans (h1.trans h.code))
    subst hcc
    have hlen : len₂ = len := by rw [hdg] at hd₂; cases hd₂; rfl
    subst hlen
    have hs₂ : s₂ = (({ U with heap := s₂.heap, slotsUsed := s₂.slotsUsed } : State).setVm s₂.vm).setTop { g with pc := g.pc + len₂, stack := v.toList ++ g.stack } := by
      refine e3.trans ?_
      rw [hf₂, State.calling_eq h.top, State.setFrames_setFrames, State.setTop_of_frames _ hr', hr]
      rfl
    have hsame : U.sameButNew ({ U with heap := s₂.heap, slotsUsed := s₂.slotsUsed } : State) L mc ms := by
      refine ⟨?_, q2, q3, q4, q5, q6⟩
      obtain ⟨t, ht, -⟩ := State.frames_cons hr
      show ({ U with heap := s₂.heap, slotsUsed := s₂.slotsUsed } : State) = { U.setFrames U.frames with heap := s₂.heap, slotsUsed := s₂.slotsUsed }
      rw [State.setFrames_self ht]
    subst hg
    refine Or.inl ⟨v, ⟨(({ U with heap := s₂.heap, slotsUsed := s₂.slotsUsed } : State).setVm s₂.vm), Ls ++ L, c0 + mc, s0 + ms⟩,
      ⟨X.admits, X.cas, X.clock, X.frames, X.room, X.hears, X.method, X.code, (X.here.setHeapUsed s₂.heap s₂.slotsUsed).setVm hW'.alike, X.tail, State.WarmedH.trans X.warmed hW', X.limits, X.bytes, X.same.trans (hsame.setVm s.vm)⟩,
      ⟨g, mk, s₂, L, rfl, rfl, hqc, rfl, hL, rfl, rfl⟩, ?_⟩
    show Steps p.tables e below _ ((({ U with heap := s₂.heap, slotsUsed := s₂.slotsUsed } : State).setVm s₂.vm).setTop { g with pc := g.pc + len₂, stack := v.toList ++ g.stack })
    rw [← hs₂]
    exact hsteps
  · obtain ⟨e2, q2, q3, q4, q5, q6⟩ := id hsm
    have e3 : s₂ = ({ (U.calling g mk a).setFrames s₂.frames with heap := s₂.heap, slotsUsed := s₂.slotsUsed } : State).setVm s₂.vm := by
      have : s₂ = ({ s₂ with vm := (U.calling g mk a).vm } : State).setVm s₂.vm := rfl
      rw [e2] at this
      exact this
    have hf₂ : s₂.frames = .throwing q :: .java g :: U.frames.tail := hend
    have hW' : U.WarmedH s₂.vm := hW₂
    have hs₂ : s₂ = ((({ U with heap := s₂.heap, slotsUsed := s₂.slotsUsed } : State).setVm s₂.vm).setTop g).pushFrame (.throwing q) := by
      refine e3.trans ?_
      rw [hf₂, State.calling_eq h.top, State.setFrames_setFrames, State.pushFrame, State.frames_setTop _ hr', State.setTop_of_frames _ hr', State.setFrames_setFrames, hr]
      rfl
    have hsame : U.sameButNew ({ U with heap := s₂.heap, slotsUsed := s₂.slotsUsed } : State) L mc ms := by
      refine ⟨?_, q2, q3, q4, q5, q6⟩
      obtain ⟨t, ht, -⟩ := State.frames_cons hr
      show ({ U with heap := s₂.heap, slotsUsed := s₂.slotsUsed } : State) = { U.setFrames U.frames with heap := s₂.heap, slotsUsed := s₂.slotsUsed }
      rw [State.setFrames_self ht]
    subst hg
    refine Or.inr ⟨q, ⟨(({ U with heap := s₂.heap, slotsUsed := s₂.slotsUsed } : State).setVm s₂.vm), Ls ++ L, c0 + mc, s0 + ms⟩,
      ⟨X.admits, X.cas, X.clock, X.frames, X.room, X.hears, X.method, X.code, (X.here.setHeapUsed s₂.heap s₂.slotsUsed).setVm hW'.alike, X.tail, State.WarmedH.trans X.warmed hW', X.limits, X.bytes, X.same.trans (hsame.setVm s.vm)⟩,
      ⟨g, mk, s₂, L, E, ce, rfl, rfl, hx, hce, hcv, hcl, rfl, hL, rfl, rfl⟩, ?_⟩
    show Steps p.tables e below _ (((({ U with heap := s₂.heap, slotsUsed := s₂.slotsUsed } : State).setVm s₂.vm).setTop g).pushFrame (.throwing q))
    rw [← hs₂]
    exact hsteps
end
variable {p : Program} {l : Launch} {e : Env} {R : Room} {s : State} {m : MethodId} {args : Array Value} {below : List Frame} {meth : Method} {c : Code} {T : State} {H : Heap} {locs : List Loc} {cells slots : Nat}
theorem vx_callVX (X : Stand p l e R s m args below meth c T locs cells slots) (hexec : p.tables.exec = Jvm.exec) {own C : String} {index : Nat} {y : MethodName} {bytes : ByteArray} {maxL : Nat} {ret : Option FieldType} {hh : List (Nat × Nat × Nat × Nat)}
    (hown : s.vm.findClass own = some m.cls) (hlink : (Cond.methodLink own index y).before args s = true) (hinst : (Cond.instanceMethod y).before args s = true) (hsel : (Cond.selects C y y).before args s = true)
    (hcode : (Cond.codeWith y bytes maxL ret hh).before args s = true) (hy : y.cls ≠ "java/lang/invoke/MethodHandle" ∧ y.cls ≠ "java/lang/invoke/VarHandle")
    {W9 : Nat} {Pre : Pt → Array Value → Prop} {Post : Pt → Array Value → Option Value → Pt → Prop} {PostX : Pt → Array Value → Addr → Pt → Prop} (hK : vx_Back l R p e below s args y 3 W9 Pre Post PostX)
    {b : Addr} {cellB : Cell} (hcell : T.heap[b]? = some cellB) (hobj : cellB.vm.isStatics = false) (hcls : s.vm.findClass C = some cellB.cls)
    {g : JFrame} (hg : g.method = m) (hsize : g.locals.size = c.maxLocals) {argsL rest : List Value} (hlen : ∀ sig, parseMethodDescriptor y.desc = some sig → argsL.length = sig.parameters.length)
    (hstack : g.stack = argsL.reverse ++ .ref b :: rest) (hW : 2 * g.monitorRoom + (rest.map fun v => v.category).sum ≤ W9) (hdg : decode c.code g.pc = .ok (.invokevirtual index, 3))
    (hpre : ∀ vm₁, s.WarmedH vm₁ → Pre ⟨T.setVm vm₁, locs, cells, slots⟩ (Value.ref b :: argsL).toArray) :
    (∃ (v : Option Value) (vm₁ : Vm) (B : Pt), s.WarmedH vm₁ ∧ Stand p l e R s m args below meth c B.U B.locs B.cells B.slots ∧ Post ⟨T.setVm vm₁, locs, cells, slots⟩ (Value.ref b :: argsL).toArray v B ∧
      ∀ target, Steps p.tables e below (B.U.setTop { g with pc := g.pc + 3, stack := v.toList ++ rest }) target → Steps p.tables e below (T.setTop g) target) ∨
    (∃ (q : Addr) (vm₁ : Vm) (B : Pt), s.WarmedH vm₁ ∧ Stand p l e R s m args below meth c B.U B.locs B.cells B.slots ∧ PostX ⟨T.setVm vm₁, locs, cells, slots⟩ (Value.ref b :: argsL).toArray q B ∧
      Steps p.tables e below (T.setTop g) ((B.U.setTop { g with stack := rest }).pushFrame (.throwing q))) := by
  obtain ⟨mk, methM, hnamed, hmethM, hstM, habM⟩ := Cond.instanceMethod_spec hinst
  obtain ⟨m8, methM', cM, hn8, hmethM', -, -, -, -, -, -, hsigM⟩ := Cond.codeWith_spec hcode
  cases Option.some.inj (hn8.symm.trans hnamed)
  cases hmethM.symm.trans hmethM'
  obtain ⟨c2, r2, m2, q1, q2, q3, q4, kP, hkP, hkPi⟩ := Cond.selects_spec hsel
  cases hcls.symm.trans q1
  cases (State.methodFound?_of_named hnamed hy).symm.trans q2
  cases hnamed.symm.trans q3
  have hselP : selectMethod e.platform s.vm cellB.cls mk = .method mk := by rw [Launch.admits_selectMethod X.admits]; exact q4
  obtain ⟨vm₁, X₁, hstep₁⟩ := X.invokevirtual hexec hown hlink hnamed hmethM hstM hkP hkPi hy (a := b) (cell := cellB) hcell
    (fun z h => by rw [h] at hobj; cases hobj) hselP hmethM habM hkP hkPi (g := g) hg (argsL := argsL) (rest := rest) (hlen _ hsigM) hstack hdg
  rcases hK m meth c ⟨T.setVm vm₁, locs, cells, slots⟩ { g with stack := rest } (.invokevirtual index) mk (Value.ref b :: argsL).toArray X₁ hg hsize hdg hW (X₁.named hnamed) (hpre vm₁ X₁.warmed) with ⟨v, B, X', hpost, hsteps⟩ | ⟨q, B, X', hpost, hsteps⟩
  · exact Or.inl ⟨v, vm₁, B, X₁.warmed, X', hpost, fun target h => hstep₁ _ fun acts => by rw [doInvoke_state]; exact hsteps.trans h⟩
  · exact Or.inr ⟨q, vm₁, B, X₁.warmed, X', hpost, hstep₁ _ fun acts => by rw [doInvoke_state]; exact hsteps⟩
theorem vx_callSX (X : Stand p l e R s m args below meth c T locs cells slots) (hexec : p.tables.exec = Jvm.exec) {own : String} {index : Nat} {y : MethodName} {bytes : ByteArray} {maxL : Nat} {ret : Option FieldType} {hh : List (Nat × Nat × Nat × Nat)}
    (hown : s.vm.findClass own = some m.cls) (hlink : (Cond.methodLink own index y).before args s = true) (hstat : (Cond.static y).before args s = true) (hinit : (Cond.initialized y.cls).before args s = true)
    (hcode : (Cond.codeWith y bytes maxL ret hh).before args s = true) (hy : y.cls ≠ "java/lang/invoke/MethodHandle" ∧ y.cls ≠ "java/lang/invoke/VarHandle")
    {W9 : Nat} {Pre : Pt → Array Value → Prop} {Post : Pt → Array Value → Option Value → Pt → Prop} {PostX : Pt → Array Value → Addr → Pt → Prop} (hK : vx_Back l R p e below s args y 3 W9 Pre Post PostX)
    {g : JFrame} (hg : g.method = m) (hsize : g.locals.size = c.maxLocals) {argsL rest : List Value} (hlen : ∀ sig, parseMethodDescriptor y.desc = some sig → argsL.length = sig.parameters.length)
    (hstack : g.stack = argsL.reverse ++ rest) (hW : 2 * g.monitorRoom + (rest.map fun v => v.category).sum ≤ W9) (hdg : decode c.code g.pc = .ok (.invokestatic index, 3))
    (hpre : ∀ vm₁, s.WarmedH vm₁ → Pre ⟨T.setVm vm₁, locs, cells, slots⟩ argsL.toArray) :
    (∃ (v : Option Value) (vm₁ : Vm) (B : Pt), s.WarmedH vm₁ ∧ Stand p l e R s m args below meth c B.U B.locs B.cells B.slots ∧ Post ⟨T.setVm vm₁, locs, cells, slots⟩ argsL.toArray v B ∧
      ∀ target, Steps p.tables e below (B.U.setTop { g with pc := g.pc + 3, stack := v.toList ++ rest }) target → Steps p.tables e below (T.setTop g) target) ∨
    (∃ (q : Addr) (vm₁ : Vm) (B : Pt), s.WarmedH vm₁ ∧ Stand p l e R s m args below meth c B.U B.locs B.cells B.slots ∧ PostX ⟨T.setVm vm₁, locs, cells, slots⟩ argsL.toArray q B ∧
      Steps p.tables e below (T.setTop g) ((B.U.setTop { g with stack := rest }).pushFrame (.throwing q))) := by
  obtain ⟨mk, methM, cM, hnamed, hmethM, -, -, -, -, -, -, hsigM⟩ := Cond.codeWith_spec hcode
  have hstatic : methM.isStatic = true := Cond.static_spec hnamed hmethM hstat
  obtain ⟨kP, hkP, -⟩ := className_of_methodNamed hnamed
  have hinitP : kP.init = .initialized := Cond.initialized_spec (findClass_of_methodNamed hnamed) hkP hinit
  obtain ⟨vm₁, X₁, hstep₁⟩ := X.invokestatic hexec hown hlink hnamed hmethM hstatic hkP hinitP hy (g := g) hg (argsL := argsL) (rest := rest) (hlen _ hsigM) hstack hdg
  rcases hK m meth c ⟨T.setVm vm₁, locs, cells, slots⟩ { g with stack := rest } (.invokestatic index) mk argsL.toArray X₁ hg hsize hdg hW (X₁.named hnamed) (hpre vm₁ X₁.warmed) with ⟨v, B, X', hpost, hsteps⟩ | ⟨q, B, X', hpost, hsteps⟩
  · exact Or.inl ⟨v, vm₁, B, X₁.warmed, X', hpost, fun target h => hstep₁ _ fun acts => by rw [doInvoke_state]; exact hsteps.trans h⟩
  · exact Or.inr ⟨q, vm₁, B, X₁.warmed, X', hpost, hstep₁ _ fun acts => by rw [doInvoke_state]; exact hsteps⟩
theorem vx_callVW (X : Stand p l e R s m args below meth c T locs cells slots) (hexec : p.tables.exec = Jvm.exec) {own C : String} {index : Nat} {y : MethodName} {bytes : ByteArray} {maxL : Nat} {ret : Option FieldType} {hh : List (Nat × Nat × Nat × Nat)}
    (hown : s.vm.findClass own = some m.cls) (hlink : (Cond.methodLink own index y).before args s = true) (hinst : (Cond.instanceMethod y).before args s = true) (hsel : (Cond.selects C y y).before args s = true)
    (hcode : (Cond.codeWith y bytes maxL ret hh).before args s = true) (hy : y.cls ≠ "java/lang/invoke/MethodHandle" ∧ y.cls ≠ "java/lang/invoke/VarHandle")
    {W9 : Nat} {Pre : Pt → Array Value → Prop} {Post : Pt → Array Value → Option Value → Pt → Prop} (hK : Back l R p e below s args y 3 W9 Pre Post)
    {b : Addr} {cellB : Cell} (hcell : T.heap[b]? = some cellB) (hobj : cellB.vm.isStatics = false) (hcls : s.vm.findClass C = some cellB.cls)
    {g : JFrame} (hg : g.method = m) (hsize : g.locals.size = c.maxLocals) {argsL rest : List Value} (hlen : ∀ sig, parseMethodDescriptor y.desc = some sig → argsL.length = sig.parameters.length)
    (hstack : g.stack = argsL.reverse ++ .ref b :: rest) (hW : 2 * g.monitorRoom + (rest.map fun v => v.category).sum ≤ W9) (hdg : decode c.code g.pc = .ok (.invokevirtual index, 3))
    (hpre : ∀ vm₁, s.WarmedH vm₁ → Pre ⟨T.setVm vm₁, locs, cells, slots⟩ (Value.ref b :: argsL).toArray) :
    ∃ (v : Option Value) (vm₁ : Vm) (B : Pt), s.WarmedH vm₁ ∧ Stand p l e R s m args below meth c B.U B.locs B.cells B.slots ∧ Post ⟨T.setVm vm₁, locs, cells, slots⟩ (Value.ref b :: argsL).toArray v B ∧
      ∀ target, Steps p.tables e below (B.U.setTop { g with pc := g.pc + 3, stack := v.toList ++ rest }) target → Steps p.tables e below (T.setTop g) target := by
  obtain ⟨mk, methM, hnamed, hmethM, hstM, habM⟩ := Cond.instanceMethod_spec hinst
  obtain ⟨m8, methM', cM, hn8, hmethM', -, -, -, -, -, -, hsigM⟩ := Cond.codeWith_spec hcode
  cases Option.some.inj (hn8.symm.trans hnamed)
  cases hmethM.symm.trans hmethM'
  obtain ⟨c2, r2, m2, q1, q2, q3, q4, kP, hkP, hkPi⟩ := Cond.selects_spec hsel
  cases hcls.symm.trans q1
  cases (State.methodFound?_of_named hnamed hy).symm.trans q2
  cases hnamed.symm.trans q3
  have hselP : selectMethod e.platform s.vm cellB.cls mk = .method mk := by rw [Launch.admits_selectMethod X.admits]; exact q4
  obtain ⟨vm₁, X₁, hstep₁⟩ := X.invokevirtual hexec hown hlink hnamed hmethM hstM hkP hkPi hy (a := b) (cell := cellB) hcell
    (fun z h => by rw [h] at hobj; cases hobj) hselP hmethM habM hkP hkPi (g := g) hg (argsL := argsL) (rest := rest) (hlen _ hsigM) hstack hdg
  obtain ⟨v, B, X', hpost, hsteps⟩ := hK m meth c ⟨T.setVm vm₁, locs, cells, slots⟩ { g with stack := rest } (.invokevirtual index) mk (Value.ref b :: argsL).toArray X₁ hg hsize hdg hW (X₁.named hnamed) (hpre vm₁ X₁.warmed)
  exact ⟨v, vm₁, B, X₁.warmed, X', hpost, fun target h => hstep₁ _ fun acts => by rw [doInvoke_state]; exact hsteps.trans h⟩
abbrev vx_CVW (R : Room) (s : State) (args : Array Value) (own C : String) (index : Nat) (y : MethodName) (bytes : ByteArray) (maxL : Nat) (ret : Option FieldType) (hh : List (Nat × Nat × Nat × Nat)) (ws : List Cond) (rm : Room) (mc ms n : Nat) : Prop :=
  (rm.cells = mc ∧ rm.slots = ms ∧ rm.frames + 1 ≤ R.frames ∧ 8 + (maxL + 11) + rm.locals ≤ R.locals ∧ (∀ w ∈ ws, ∀ (a' : Array Value) (U : State), s.WarmedH U.vm → w.before a' U = true) ∧ Cond.codeWith y bytes maxL ret hh ∈ ws) ∧
  (Cond.codeWith y bytes maxL ret hh).before args s = true ∧ (Cond.initialized y.cls).before args s = true ∧ (y.cls ≠ "java/lang/invoke/MethodHandle" ∧ y.cls ≠ "java/lang/invoke/VarHandle") ∧
  (∀ sig, parseMethodDescriptor y.desc = some sig → n = sig.parameters.length) ∧ (Cond.methodLink own index y).before args s = true ∧ (Cond.instanceMethod y).before args s = true ∧ (Cond.selects C y y).before args s = true
theorem vx_cwVW {own C : String} {index maxL mc ms : Nat} {y : MethodName} {bytes : ByteArray} {ret : Option FieldType} {hh : List (Nat × Nat × Nat × Nat)} {Ts ws ws' : List Cond} {rm : Room} (n : Nat) (ht : ∀ w ∈ Ts, w.before args s = true) (hT : GoodIn Ts (wsV own index C y ws)) (hw : ws = Cond.codeWith y bytes maxL ret hh :: ws') (hrc : rm.cells = mc) (hrs : rm.slots = ms)
    (hd : y.cls = C ∧ y.cls ≠ "java/lang/invoke/MethodHandle" ∧ y.cls ≠ "java/lang/invoke/VarHandle" ∧ (parseMethodDescriptor y.desc).map (fun d => d.parameters.length) = some n) (hR : rm.frames + 1 ≤ R.frames ∧ 8 + (maxL + 11) + rm.locals ≤ R.locals) :
    vx_CVW R s args own C index y bytes maxL ret hh ws rm mc ms n := by
  obtain ⟨hC, hd⟩ := hd
  subst hC
  have ok : ∀ w ∈ wsV own index y.cls y ws, w.before args s = true := fun w h => ht w (hT w h).1
  have hG : GoodIn Ts ws := fun w h => hT w (by unfold wsV; exact List.mem_append_right _ h)
  have hc : Cond.codeWith y bytes maxL ret hh ∈ ws := by rw [hw]; exact List.mem_cons_self
  refine ⟨⟨hrc, hrs, hR.1, hR.2, pay_in ht hG, hc⟩, ht _ (hG _ hc).1, ok _ (by simp [wsV]), ⟨hd.1, hd.2.1⟩, fun sig h => ?_, ok _ (by simp [wsV]), ok _ (by simp [wsV]), ok _ (by simp [wsV])⟩
  have h2 := hd.2.2
  rw [h] at h2
  exact (Option.some.inj h2).symm
theorem vx_runVW {y : MethodName} {bytes cc : ByteArray} {maxL nL mc ms n index : Nat} {ret : Option FieldType} {hh : List (Nat × Nat × Nat × Nat)} {ws : List Cond} {rm : Room} {Pc : Array Value → State → Prop} {Qc : Array Value → State → Outcome → State → Prop} {free : Addr → Prop} {Ts : List Cond} {own C : String} {b : Addr} {As rest : List Value} {g : JFrame}
    (S : CallFix p m c cc nL s args Ts own) (hM : Met l y ws rm Pc Qc mc ms free) (cw : vx_CVW R s args own C index y bytes maxL ret hh ws rm mc ms n) (hp : PreV s H C b Pc As)
    (hg : g.method = m) (hn : As.length = n) (hsize : g.locals.size = nL) (hstack : g.stack = As.reverse ++ .ref b :: rest) (hW : 2 * g.monitorRoom + (rest.map fun v => v.category).sum ≤ 8) (hdg : decode cc g.pc = .ok (.invokevirtual index, 3)) (hf : cells + mc ≤ R.cells ∧ slots + ms ≤ R.slots) :
    va_Run p l e R s m args below meth c H locs cells slots mc ms g rest (Qc (Value.ref b :: As).toArray) free := by
  obtain ⟨⟨hrc, hrs, hfr, hlo, hws, hcw⟩, hcode, hini, hy, hlen, hl, hin, hse⟩ := cw
  have hK : Back l R p e below s args y 3 8 (PreOf R mc ms Pc) (PostOf Qc mc ms free) := va_backW (hh := hh) (bytes := bytes) (maxL := maxL) (ret := ret) hM hp.1 hrc hrs hfr hlo hws hcw (fun a' U hW => word_at hW (Or.inl (by first | rfl | simp [Cond.onTables, Cond.keeps, Cond.steady])) hini)
  obtain ⟨hx, hb, hml, ho, -⟩ := S
  obtain ⟨-, ⟨cellB, hcB, hoB, hclB⟩, hPc⟩ := hp
  intro T hT X
  obtain ⟨v, vm₁, ⟨U', l2, c2, s2⟩, hW₁, X', ⟨g', mk, t, L, e1, e2, hq, h1, hL, h2, h3⟩, st⟩ := vx_callVW X hx (C := C) (hh := hh) (bytes := bytes) (maxL := maxL) (ret := ret) ho hl hin hse hcode hy hK (by rw [hT]; exact hcB) hoB hclB hg (hsize.trans hml.symm) (argsL := As) (rest := rest) (fun sig h => hn.trans (hlen sig h)) hstack hW (by rw [hb]; exact hdg)
    (fun vm₁ hW₁ => ⟨hf.1, hf.2, hPc (T.setVm vm₁) hT hW₁⟩)
  dsimp only [Pt.U, Pt.locs, Pt.cells, Pt.slots] at X' e1 e2 h1 h2 h3 st
  subst h1; subst h2; subst h3
  exact ⟨v, (T.setVm vm₁).calling g' mk (Value.ref b :: As).toArray, t, U', L, hT, X', hL, e1, e2, hq, st⟩
section
variable {y : MethodName} {bytes cc : ByteArray} {maxL nL mc ms n index : Nat} {ret : Option FieldType} {ws : List Cond} {rm : Room} {Pc : Array Value → State → Prop} {Qc : Array Value → State → Outcome → State → Prop} {XC : String → State → State → Prop} {free : Addr → Prop} {Ts : List Cond} {own C : String} {b : Addr} {As rest : List Value} {g : JFrame}
theorem vx_runVX {hh : List (Nat × Nat × Nat × Nat)} (S : CallFix p m c cc nL s args Ts own) (hM : vx_Met l y ws rm Pc Qc XC mc ms free) (cw : vx_CVW R s args own C index y bytes maxL ret hh ws rm mc ms n) (hp : PreV s H C b Pc As)
    (hg : g.method = m) (hn : As.length = n) (hsize : g.locals.size = nL) (hstack : g.stack = As.reverse ++ .ref b :: rest) (hW : 2 * g.monitorRoom + (rest.map fun v => v.category).sum ≤ 8) (hdg : decode cc g.pc = .ok (.invokevirtual index, 3)) (hf : cells + mc ≤ R.cells ∧ slots + ms ≤ R.slots) :
    vx_Run p l e R s m args below meth c H locs cells slots mc ms g rest (Qc (Value.ref b :: As).toArray) XC free := by
  obtain ⟨⟨hrc, hrs, hfr, hlo, hws, hcw⟩, hcode, hini, hy, hlen, hl, hin, hse⟩ := cw
  have hK : vx_Back l R p e below s args y 3 8 (PreOf R mc ms Pc) (PostOf Qc mc ms free) (vx_Post XC mc ms free) := vx_backW (hh := hh) (bytes := bytes) (maxL := maxL) (ret := ret) hM hp.1 hrc hrs hfr hlo hws hcw (fun a' U hW => word_at hW (Or.inl (by first | rfl | simp [Cond.onTables, Cond.keeps, Cond.steady])) hini)
  obtain ⟨hx, hb, hml, ho, -⟩ := S
  obtain ⟨-, ⟨cellB, hcB, hoB, hclB⟩, hPc⟩ := hp
  intro T hT X
  rcases vx_callVX X hx (C := C) (hh := hh) (bytes := bytes) (maxL := maxL) (ret := ret) ho hl hin hse hcode hy hK (by rw [hT]; exact hcB) hoB hclB hg (hsize.trans hml.symm) (argsL := As) (rest := rest) (fun sig h => hn.trans (hlen sig h)) hstack hW (by rw [hb]; exact hdg)
    (fun vm₁ hW₁ => ⟨hf.1, hf.2, hPc (T.setVm vm₁) hT hW₁⟩) with ⟨v, vm₁, ⟨U', l2, c2, s2⟩, hW₁, X', ⟨g', mk, t, L, e1, e2, hq, h1, hL, h2, h3⟩, st⟩ | ⟨q, vm₁, ⟨U', l2, c2, s2⟩, hW₁, X', ⟨g', mk, t, L, E, ce, e1, e2, hq, hce, hcv, hcl, h1, hL, h2, h3⟩, st⟩
  · dsimp only [Pt.U, Pt.locs, Pt.cells, Pt.slots] at X' e1 e2 h1 h2 h3 st
    subst h1; subst h2; subst h3
    exact Or.inl ⟨v, (T.setVm vm₁).calling g' mk (Value.ref b :: As).toArray, t, U', L, hT, X', hL, e1, e2, hq, st⟩
  · dsimp only [Pt.U, Pt.locs, Pt.cells, Pt.slots] at X' e1 e2 h1 h2 h3 st hcl
    subst h1; subst h2; subst h3
    exact Or.inr ⟨q, (T.setVm vm₁).calling g' mk (Value.ref b :: As).toArray, t, U', L, E, ce, hT, X', hL, e1, e2, hq, hce, hcv, vx_cls hW₁ hcl, st⟩
theorem vx_runSX {hh : List (Nat × Nat × Nat × Nat)} (S : CallFix p m c cc nL s args Ts own) (hM : vx_Met l y ws rm Pc Qc XC mc ms free) (cw : vx_CSW R s args own index y bytes maxL ret hh ws rm mc ms n) (hp : PreS s H Pc As)
    (hg : g.method = m) (hn : As.length = n) (hsize : g.locals.size = nL) (hstack : g.stack = As.reverse ++ rest) (hW : 2 * g.monitorRoom + (rest.map fun v => v.category).sum ≤ 8) (hdg : decode cc g.pc = .ok (.invokestatic index, 3)) (hf : cells + mc ≤ R.cells ∧ slots + ms ≤ R.slots) :
    vx_Run p l e R s m args below meth c H locs cells slots mc ms g rest (Qc As.toArray) XC free := by
  obtain ⟨⟨hrc, hrs, hfr, hlo, hws, hcw⟩, hcode, hini, hy, hlen, hl, hstt⟩ := cw
  have hK : vx_Back l R p e below s args y 3 8 (PreOf R mc ms Pc) (PostOf Qc mc ms free) (vx_Post XC mc ms free) := vx_backW (hh := hh) (bytes := bytes) (maxL := maxL) (ret := ret) hM hp.1 hrc hrs hfr hlo hws hcw (fun a' U hW => word_at hW (Or.inl (by first | rfl | simp [Cond.onTables, Cond.keeps, Cond.steady])) hini)
  obtain ⟨hx, hb, hml, ho, -⟩ := S
  intro T hT X
  rcases vx_callSX X hx (hh := hh) (bytes := bytes) (maxL := maxL) (ret := ret) ho hl hstt hini hcode hy hK hg (hsize.trans hml.symm) (argsL := As) (rest := rest) (fun sig h => hn.trans (hlen sig h)) hstack hW (by rw [hb]; exact hdg)
    (fun vm₁ hW₁ => ⟨hf.1, hf.2, hp.2 (T.setVm vm₁) hT hW₁⟩) with ⟨v, vm₁, ⟨U', l2, c2, s2⟩, hW₁, X', ⟨g', mk, t, L, e1, e2, hq, h1, hL, h2, h3⟩, st⟩ | ⟨q, vm₁, ⟨U', l2, c2, s2⟩, hW₁, X', ⟨g', mk, t, L, E, ce, e1, e2, hq, hce, hcv, hcl, h1, hL, h2, h3⟩, st⟩
  · dsimp only [Pt.U, Pt.locs, Pt.cells, Pt.slots] at X' e1 e2 h1 h2 h3 st
    subst h1; subst h2; subst h3
    exact Or.inl ⟨v, (T.setVm vm₁).calling g' mk As.toArray, t, U', L, hT, X', hL, e1, e2, hq, st⟩
  · dsimp only [Pt.U, Pt.locs, Pt.cells, Pt.slots] at X' e1 e2 h1 h2 h3 st hcl
    subst h1; subst h2; subst h3
    exact Or.inr ⟨q, (T.setVm vm₁).calling g' mk As.toArray, t, U', L, E, ce, hT, X', hL, e1, e2, hq, hce, hcv, vx_cls hW₁ hcl, st⟩
end
end VXH
theorem vx_ofWH {l : Launch} {y : MethodName} {ws ws' : List Cond} {rm : Room} {Pc : Array Value → State → Prop} {Qc : Array Value → State → Outcome → State → Prop} {XC : String → State → State → Prop} {mc ms : Nat} {free : Addr → Prop} {cc : ByteArray} {maxL : Nat} {ret : Option FieldType} {hh : List (Nat × Nat × Nat × Nat)}
    (hy : plainName y.cls = true) (hw : ws = Cond.codeWith y cc maxL ret hh :: ws')
    (body : ∀ p e s m args below meth c s₁, BodyLoose p l y (headSpec ws rm) cc maxL ret e s m args below meth c s₁ → c.maxLocals = maxL → Pc args s →
      W p l e (headSpec ws rm).room s m args below meth c s.heap [] 0 0 (vx_MQ below Qc XC args s mc ms free) (entryFrame m args maxL)) : vx_Met l y ws rm Pc Qc XC mc ms free := by
  refine MetFree.of_bodyS (code := cc) (maxLocals := maxL) (ret := ret) hy ?_ ?_
  · intro args s m h hn
    obtain ⟨m9, meth, c, hn9, h1, h2, h3, h4, -, h5, h6, -⟩ := Cond.codeWith_spec (atoms_spec (ws := ws) h _ (by rw [hw]; exact List.mem_cons_self))
    cases hn.symm.trans hn9
    exact ⟨meth, c, h1, h2, h3, h4, h5, h6⟩
  · intro p e s m args below meth c s₁ B hml hP _
    have hh0 : s₁.heap = s.heap := by rw [B.state]; rfl
    obtain ⟨t, a1, o, b1, b2, b3⟩ := body p e s m args below meth c s₁ B hml hP s₁ hh0 (Stand.of_body B)
    exact ⟨t, o, a1, b1, b2, b3⟩
/-! ===== END ===== -/
end
section
/-! THE PLAIN MACHINE, its pictures: cells by their number (0 the script, then those that the law makes, in the order in which they come), values with cells' numbers as references. -/
abbrev am_L : Type := List (Option Value)
abbrev am_C : Type := (Nat × vp_A) ⊕ (Nat × List Value)
abbrev am_H : Type := List am_C
/-- where cell k lies: the script at sb, the others from base on -/
def am_ad (sb base : Nat) : Nat → Nat
  | 0 => sb
  | k + 1 => base + k
def am_cv (sb base : Nat) : Value → Value
  | .ref k => .ref (am_ad sb base k)
  | v => v
def am_cx (sb base : Nat) : vp_A → vp_A
  | (n, .inr (.inr (.inr (.inr f)))) => (n, .inr (.inr (.inr (.inr (fun i => (f i).map (am_ad sb base))))))
  | x => x
theorem am_cv_cat (sb base : Nat) (v : Value) : (am_cv sb base v).category = v.category := by cases v <;> rfl
theorem am_ad_inj {sb base : Nat} (h : sb < base) {i j : Nat} (e : am_ad sb base i = am_ad sb base j) : i = j := by
  cases i <;> cases j <;> simp only [am_ad] at e <;> omega
theorem am_ad_ge {sb base k : Nat} : base ≤ am_ad sb base (k + 1) := Nat.le_add_right _ _
/-- what stands at an address -/
def am_at (D : va_G) (cl : List vw_C) (cA : Nat → ClassId) (sb base : Nat) (U : State) (H : Heap) (a : Nat) : am_C → Prop
  | .inl q => (q.1 = 99 → ∃ scr : Cell, H[a]? = some scr ∧ U.isArrayOf scr .int ∧ scr.vm ≠ .unknown ∧ scr.slots.size = q.2.1 ∧ ∃ xs : Nat → Int32, q.2.2 = .inl xs ∧ ∀ j : Nat, j < q.2.1 → scr.slots[j]? = some (.int (xs j))) ∧
    (q.1 ≠ 99 → (q.1 = 98 ∧ a < H.size) ∨ H[a]? = some (vp_cell (cA q.1) (am_cx sb base q.2)))
  | .inr q => ∃ r : vw_C, cl[q.1]? = some r ∧ t_OB a (D.1 q.1) r.2.2 (D.2 q.1) H (vp_V (q.2.map (am_cv sb base)))
/-- the heap H holds the cells h -/
def am_R (D : va_G) (cl : List vw_C) (cA : Nat → ClassId) (sb base : Nat) (U : State) (h : am_H) (H : Heap) : Prop :=
  sb < base ∧ H.size + 1 = base + h.length ∧ (∃ x : vp_A, h[0]? = some (.inl (99, x))) ∧ ∀ (k : Nat) (c : am_C), h[k]? = some c → am_at D cl cA sb base U H (am_ad sb base k) c
/-- the word that arrays of arrays of a kind are known -/
theorem am_AOA_spec {t : FieldType} {s : State} (h : (Jvm.Cond.arrayOver (.array t)).before #[] s = true) :
    ∃ comp c k, s.vm.findClass (FieldType.array t).toString = some comp ∧ (s.vm.classes.findIdx? fun (x : Class) => match x.kind with | .array component _ => component == comp | _ => false) = some c ∧ s.vm.classes[c]? = some k ∧ k.kind = .array comp (.array t) ∧ s.vm.findClass ("[" ++ (FieldType.array t).toString) = some c := by
  unfold Cond.before at h
  simp only [Cond.holds, Cond.value, beq_iff_eq] at h
  cases hc : s.vm.findClass (FieldType.array t).toString with
  | none => simp [hc] at h
  | some comp =>
    simp only [hc, Option.bind_some, Option.bind_eq_some_iff, Option.map_eq_some_iff] at h
    obtain ⟨c, h1, k, h2, h3⟩ := h
    cases hk : k.kind with
    | array cp ty =>
      rw [hk] at h3
      simp only [Bool.and_eq_true, decide_eq_true_eq] at h3
      obtain ⟨h4, h5⟩ := h3
      have h6 := Array.findIdx?_eq_some_iff_getElem.mp h1
      obtain ⟨q1, q2, -⟩ := h6
      have h7 : s.vm.classes[c] = k := Option.some.inj ((Array.getElem?_eq_getElem q1).symm.trans h2)
      rw [h7, hk] at q2
      have q3 : cp = comp := eq_of_beq q2
      subst q3; subst h4
      exact ⟨cp, c, k, rfl, h1, h2, hk, h5⟩
    | _ => rw [hk] at h3; cases h3
theorem am_AOA_moved {t : FieldType} {u U : State} (hvm : u.vm.Alike U.vm) (h : (Jvm.Cond.arrayOver (.array t)).before #[] u = true) : (Jvm.Cond.arrayOver (.array t)).before #[] U = true := by
  obtain ⟨comp, c, k, h1, h2, h3, h4, h5⟩ := am_AOA_spec h
  obtain ⟨k', hk', he⟩ := hvm.2.2 _ _ h3
  have hi : (U.vm.classes.findIdx? fun (x : Class) => match x.kind with | .array component _ => component == comp | _ => false) = some c := by
    refine (va_idx_bare U.vm comp).symm.trans ?_
    first | rw [hvm.bare_eq] | rw [← hvm.bare_eq]
    exact (va_idx_bare u.vm comp).trans h2
  have hkind : k'.kind = .array comp (.array t) := by rw [he]; exact h4
  have f1 : U.vm.findClass (FieldType.array t).toString = some comp := by rw [hvm.findClass]; exact h1
  have f2 : U.vm.findClass ("[" ++ (FieldType.array t).toString) = some c := by rw [hvm.findClass]; exact h5
  unfold Cond.before
  simp only [Cond.holds, Cond.value, f1, Option.bind_some, beq_iff_eq]
  rw [Option.bind_eq_some_iff]
  refine ⟨c, hi, ?_⟩
  simp [hk', hkind, f2]
/-- the classes and the kinds of arrays, as the tables have them; nest mates' links -/
def am_K (D : va_G) (cl : List vw_C) (cA : Nat → ClassId) (tys : List FieldType) (U : State) : Prop :=
  (∀ (c : Nat) (q : vw_C), cl[c]? = some q → u_Kn U q.1 q.2.1 q.2.2 (D.1 c) (D.2 c)) ∧ (∀ (t : Nat) (ty : FieldType), tys[t]? = some ty → am_on t = true → ArrOfT U (cA t) ty ∧ va_RA U (cA t) ty) ∧
  (∀ q ∈ am_nst, va_Nw (.methodLinkNest q.1 q.2.1 q.2.2.1 q.2.2.2) U) ∧ va_AO "TraceAligner$Trace" U ∧ (Jvm.Cond.arrayOver (.array .int)).before #[] U = true
theorem am_K.moved {D : va_G} {cl : List vw_C} {cA : Nat → ClassId} {tys : List FieldType} {u U : State} (hW : u.WarmedH U.vm) (h : am_K D cl cA tys u) : am_K D cl cA tys U :=
  ⟨fun c q hq => u_Kn_moved hW.alike (h.1 c q hq), fun t ty ht ho => ⟨arrOfT_moved hW.alike (h.2.1 t ty ht ho).1, (h.2.1 t ty ht ho).2.moved hW.alike⟩, fun q hq => va_Nw.warmM hW (h.2.2.1 q hq), va_AO.moved hW.alike h.2.2.2.1, am_AOA_moved hW.alike h.2.2.2.2⟩
section AMR
variable {D : va_G} {cl : List vw_C} {cA : Nat → ClassId} {sb base : Nat} {u U : State} {h : am_H} {H H1 : Heap}
theorem am_at.kept {a : Nat} {c : am_C} (hq : H1[a]? = H[a]?) (h : am_at D cl cA sb base U H a c) : am_at D cl cA sb base U H1 a c := by
  cases c with
  | inl q =>
    refine ⟨fun ht => ?_, fun ht => (h.2 ht).imp (fun z => ⟨z.1, (Array.getElem?_eq_some_iff.mp (hq.trans (Array.getElem?_eq_getElem z.2))).1⟩) (fun z => hq.trans z)⟩
    obtain ⟨scr, h1, h2⟩ := h.1 ht
    exact ⟨scr, hq.trans h1, h2⟩
  | inr q =>
    obtain ⟨r, h1, h2⟩ := h
    exact ⟨r, h1, h2.kept hq⟩
theorem am_at.moved {a : Nat} {c : am_C} (hvm : u.vm.Alike U.vm) (h : am_at D cl cA sb base u H a c) : am_at D cl cA sb base U H a c := by
  cases c with
  | inl q =>
    refine ⟨fun ht => ?_, h.2⟩
    obtain ⟨scr, h1, h2, h3⟩ := h.1 ht
    exact ⟨scr, h1, State.isArrayOf_alike hvm h2, h3⟩
  | inr q => exact h
theorem am_R.moved (hvm : u.vm.Alike U.vm) (R : am_R D cl cA sb base u h H) : am_R D cl cA sb base U h H :=
  ⟨R.1, R.2.1, R.2.2.1, fun k c hk => (R.2.2.2 k c hk).moved hvm⟩
theorem am_R.lt (R : am_R D cl cA sb base U h H) {k : Nat} {c : am_C} (hk : h[k]? = some c) : am_ad sb base k < H.size := by
  have h1 := R.2.2.2 k c hk
  cases c with
  | inl q =>
    by_cases e : q.1 = 99
    · obtain ⟨scr, h2, -⟩ := h1.1 e
      exact (Array.getElem?_eq_some_iff.mp h2).1
    · exact (h1.2 e).elim (fun z => z.2) (fun z => (Array.getElem?_eq_some_iff.mp z).1)
  | inr q =>
    obtain ⟨r, -, cell, h2, -⟩ := h1
    exact (Array.getElem?_eq_some_iff.mp h2).1
theorem am_R.pos (R : am_R D cl cA sb base U h H) : 0 < h.length := by
  obtain ⟨x, hx⟩ := R.2.2.1
  exact (List.getElem?_eq_some_iff.mp hx).1
/-- one cell anew -/
theorem am_R.set (R : am_R D cl cA sb base U h H) {k : Nat} {c c1 : am_C} (hk : h[k]? = some c) (hz : H1.size = H.size) (ho : ∀ q, q ≠ am_ad sb base k → H1[q]? = H[q]?) (hk0 : k ≠ 0) (hc : am_at D cl cA sb base U H1 (am_ad sb base k) c1) : am_R D cl cA sb base U (h.set k c1) H1 := by
  refine ⟨R.1, by rw [hz, List.length_set]; exact R.2.1, ?_, fun j d hj => ?_⟩
  · obtain ⟨x, hx⟩ := R.2.2.1
    exact ⟨x, by rw [List.getElem?_set_ne hk0]; exact hx⟩
  · by_cases e : k = j
    · subst e
      rw [List.getElem?_set_self (List.getElem?_eq_some_iff.mp hk).1] at hj
      cases hj
      exact hc
    · rw [List.getElem?_set_ne e] at hj
      exact (R.2.2.2 j d hj).kept (ho _ fun q => e (am_ad_inj R.1 q).symm)
/-- a new cell -/
theorem am_R.push (R : am_R D cl cA sb base U h H) {c1 : am_C} (hz : H1.size = H.size + 1) (ho : ∀ q, q < H.size → H1[q]? = H[q]?) (hc : am_at D cl cA sb base U H1 H.size c1) : am_R D cl cA sb base U (h ++ [c1]) H1 := by
  have hp := R.pos
  refine ⟨R.1, by rw [hz, List.length_append, List.length_singleton, R.2.1]; omega, ?_, fun j d hj => ?_⟩
  · obtain ⟨x, hx⟩ := R.2.2.1
    exact ⟨x, by rw [List.getElem?_append_left hp]; exact hx⟩
  · by_cases e : j < h.length
    · rw [List.getElem?_append_left e] at hj
      exact (R.2.2.2 j d hj).kept (ho _ (R.lt hj))
    · rw [List.getElem?_append_right (by omega)] at hj
      have hz : j - h.length < 1 := (List.getElem?_eq_some_iff.mp hj).1
      rw [show j - h.length = 0 by omega] at hj
      cases hj
      have h2 := R.2.1
      have : am_ad sb base j = H.size := by
        obtain ⟨i, rfl⟩ : ∃ i, j = i + 1 := ⟨j - 1, by omega⟩
        show base + i = H.size
        omega
      rw [this]
      exact hc
theorem am_R.next (R : am_R D cl cA sb base U h H) : am_ad sb base h.length = H.size := by
  have hp := R.pos
  have h2 := R.2.1
  obtain ⟨i, hi⟩ : ∃ i, h.length = i + 1 := ⟨h.length - 1, by omega⟩
  rw [hi]
  show base + i = H.size
  omega
/-- a cell of which nothing is said -/
abbrev am_unk : am_C := .inl (98, 0, .inl fun _ => 0)
theorem am_R.grow (R : am_R D cl cA sb base U h H) (hz : H.size ≤ H1.size) (ho : ∀ q, q < H.size → H1[q]? = H[q]?) : am_R D cl cA sb base U (h ++ List.replicate (H1.size - H.size) am_unk) H1 := by
  have hp := R.pos
  have h2 := R.2.1
  refine ⟨R.1, by rw [List.length_append, List.length_replicate]; omega, ?_, fun j d hj => ?_⟩
  · obtain ⟨x, hx⟩ := R.2.2.1
    exact ⟨x, by rw [List.getElem?_append_left hp]; exact hx⟩
  · by_cases e : j < h.length
    · rw [List.getElem?_append_left e] at hj
      exact (R.2.2.2 j d hj).kept (ho _ (R.lt hj))
    · rw [List.getElem?_append_right (by omega), List.getElem?_replicate] at hj
      split at hj
      · rename_i hlt
        cases hj
        refine ⟨fun q => absurd q (by decide), fun _ => Or.inl ⟨rfl, ?_⟩⟩
        obtain ⟨i, rfl⟩ : ∃ i, j = i + 1 := ⟨j - 1, by omega⟩
        show base + i < H1.size
        omega
      · cases hj
end AMR
/-! locals -/
def am_lp (g : Value → Value) : Nat → am_L → List (Nat × Value)
  | _, [] => []
  | k, none :: t => am_lp g (k + 1) t
  | k, some v :: t => (k, g v) :: am_lp g (k + 1) t
theorem am_lp_mem {g : Value → Value} : ∀ {lo : am_L} {k : Nat} {q : Nat × Value}, q ∈ am_lp g k lo ↔ k ≤ q.1 ∧ ∃ v, lo[q.1 - k]? = some (some v) ∧ q.2 = g v
  | [], k, q => by simp [am_lp]
  | none :: t, k, q => by
    rw [am_lp, am_lp_mem]
    constructor
    · rintro ⟨h1, v, h2, h3⟩
      refine ⟨by omega, v, ?_, h3⟩
      rw [show q.1 - k = (q.1 - (k + 1)) + 1 by omega, List.getElem?_cons_succ]
      exact h2
    · rintro ⟨h1, v, h2, h3⟩
      by_cases e : q.1 = k
      · rw [show q.1 - k = 0 by omega] at h2
        cases h2
      · rw [show q.1 - k = (q.1 - (k + 1)) + 1 by omega, List.getElem?_cons_succ] at h2
        exact ⟨by omega, v, h2, h3⟩
  | some w :: t, k, q => by
    rw [am_lp, List.mem_cons, am_lp_mem]
    constructor
    · rintro (rfl | ⟨h1, v, h2, h3⟩)
      · exact ⟨Nat.le_refl _, w, by simp, rfl⟩
      · refine ⟨by omega, v, ?_, h3⟩
        rw [show q.1 - k = (q.1 - (k + 1)) + 1 by omega, List.getElem?_cons_succ]
        exact h2
    · rintro ⟨h1, v, h2, h3⟩
      by_cases e : q.1 = k
      · rw [show q.1 - k = 0 by omega] at h2
        cases h2
        left
        exact Prod.ext e h3
      · right
        rw [show q.1 - k = (q.1 - (k + 1)) + 1 by omega, List.getElem?_cons_succ] at h2
        exact ⟨by omega, v, h2, h3⟩
/-- the frame's locals hold lo -/
def am_LR (g : Value → Value) (ls : Array Slot) (nL : Nat) (lo : am_L) : Prop := lo.length ≤ nL ∧ lv_has ls nL (am_lp g 0 lo)
theorem am_LR.at {g : Value → Value} {ls : Array Slot} {nL : Nat} {lo : am_L} (h : am_LR g ls nL lo) {i : Nat} {v : Value} (hi : lo[i]? = some (some v)) : ls[i]? = some (.val (g v)) :=
  h.2.2.2 (i, g v) (am_lp_mem.mpr ⟨Nat.zero_le _, v, hi, rfl⟩)
def am_c2 (lo : am_L) : Nat → Bool
  | 0 => false
  | j + 1 => match lo[j]? with
    | some (some (.long _)) => true
    | some (some (.double _)) => true
    | _ => false
theorem am_c2_f {lo : am_L} {i j : Nat} {v : Value} (h : am_c2 lo i = false) (hj : lo[j]? = some (some v)) (e : j + 1 = i) : v.category = 1 := by
  subst e
  cases v <;> first | rfl | (simp [am_c2, hj] at h)
def am_st1 (lo : am_L) (i : Nat) (v : Value) : Option am_L := match lo[i]? with
  | none => none
  | some _ => bif am_c2 lo i then none else some (lo.set i (some v))
def am_st2 (lo : am_L) (i : Nat) (v : Value) : Option am_L := match lo[i + 1]? with
  | none => none
  | some _ => bif am_c2 lo i then none else some ((lo.set i (some v)).set (i + 1) none)
theorem am_st1_ok {g : Value → Value} (hg : ∀ v, (g v).category = v.category) {ls : Array Slot} {nL : Nat} {lo lo' : am_L} {i : Nat} {v : Value} (h : am_LR g ls nL lo) (hs : am_st1 lo i v = some lo') (hc : v.category = 1) :
    i < nL ∧ lo'.length ≤ nL ∧ ∀ q ∈ am_lp g 0 lo', q ∈ (i, g v) :: (am_lp g 0 lo).filter (fun q => !(q.1 == i) && !(q.1 + 1 == i && q.2.category == 2)) := by
  unfold am_st1 at hs
  split at hs
  · cases hs
  · rename_i x hx
    have hlt := (List.getElem?_eq_some_iff.mp hx).1
    cases hb : am_c2 lo i <;> rw [hb] at hs <;> simp only [cond_true, cond_false] at hs
    · cases hs
      refine ⟨Nat.lt_of_lt_of_le hlt h.1, by rw [List.length_set]; exact h.1, fun q hq => ?_⟩
      obtain ⟨-, w, h2, h3⟩ := am_lp_mem.mp hq
      rw [Nat.sub_zero] at h2
      by_cases e : i = q.1
      · rw [← e, List.getElem?_set_self hlt] at h2
        cases h2
        exact List.mem_cons.mpr (Or.inl (Prod.ext e.symm h3))
      · rw [List.getElem?_set_ne e] at h2
        refine List.mem_cons_of_mem _ (List.mem_filter.mpr ⟨am_lp_mem.mpr ⟨Nat.zero_le _, w, h2, h3⟩, ?_⟩)
        have h4 : (q.1 == i) = false := by simp; omega
        rw [h4]
        by_cases e2 : q.1 + 1 = i
        · have := am_c2_f hb h2 e2
          rw [h3, hg, this]; simp
        · simp [e2]
    · cases hs
theorem am_st2_ok {g : Value → Value} (hg : ∀ v, (g v).category = v.category) {ls : Array Slot} {nL : Nat} {lo lo' : am_L} {i : Nat} {v : Value} (h : am_LR g ls nL lo) (hs : am_st2 lo i v = some lo') :
    i + 1 < nL ∧ lo'.length ≤ nL ∧ ∀ q ∈ am_lp g 0 lo', q ∈ (i, g v) :: (am_lp g 0 lo).filter (fun q => !(q.1 == i) && (!(q.1 == i + 1) && !(q.1 + 1 == i && q.2.category == 2))) := by
  unfold am_st2 at hs
  split at hs
  · cases hs
  · rename_i x hx
    have hlt := (List.getElem?_eq_some_iff.mp hx).1
    cases hb : am_c2 lo i <;> rw [hb] at hs <;> simp only [cond_true, cond_false] at hs
    · cases hs
      refine ⟨Nat.lt_of_lt_of_le hlt h.1, by rw [List.length_set, List.length_set]; exact h.1, fun q hq => ?_⟩
      obtain ⟨-, w, h2, h3⟩ := am_lp_mem.mp hq
      rw [Nat.sub_zero] at h2
      by_cases e1 : i + 1 = q.1
      · rw [← e1, List.getElem?_set_self (by rw [List.length_set]; exact hlt)] at h2
        cases h2
      rw [List.getElem?_set_ne e1] at h2
      by_cases e : i = q.1
      · rw [← e, List.getElem?_set_self (by omega)] at h2
        cases h2
        exact List.mem_cons.mpr (Or.inl (Prod.ext e.symm h3))
      · rw [List.getElem?_set_ne e] at h2
        refine List.mem_cons_of_mem _ (List.mem_filter.mpr ⟨am_lp_mem.mpr ⟨Nat.zero_le _, w, h2, h3⟩, ?_⟩)
        have h4 : (q.1 == i) = false := by simp; omega
        have h5 : (q.1 == i + 1) = false := by simp; omega
        rw [h4, h5]
        by_cases e2 : q.1 + 1 = i
        · have := am_c2_f hb h2 e2
          rw [h3, hg, this]; simp
        · simp [e2]
    · cases hs
/-- a method's locals at its entry -/
def am_lo : List Value → am_L
  | [] => []
  | .long x :: t => some (.long x) :: none :: am_lo t
  | .double x :: t => some (.double x) :: none :: am_lo t
  | v :: t => some v :: am_lo t
def am_lo0 (vs : List Value) (n : Nat) : am_L := am_lo vs ++ List.replicate (n - (am_lo vs).length) none
end
section
/-! THE PLAIN MACHINE, its steps. A row: place, instruction, next place, a branch's target, a constant. -/
abbrev am_Row : Type := Nat × Instr × Nat × Nat × Value
def am_len : Instr → Nat
  | .bipush _ => 2 | .ldc _ => 2 | .newarray _ => 2
  | .iload _ => 2 | .aload _ => 2 | .lload _ => 2 | .dload _ => 2 | .istore _ => 2 | .astore _ => 2 | .lstore _ => 2 | .dstore _ => 2
  | .sipush _ => 3 | .ldc_w _ => 3 | .ldc2_w _ => 3 | .iinc _ _ => 3 | .goto _ => 3 | .ifCond _ _ => 3 | .if_icmp _ _ => 3
  | .getfield _ => 3 | .putfield _ => 3 | .getstatic _ => 3 | .invokevirtual _ => 3 | .invokestatic _ => 3 | .invokespecial _ => 3 | .new _ => 3 | .anewarray _ => 3
  | .multianewarray _ _ => 4
  | _ => 1
def am_okK (own : String) (big : List Jvm.Cond) (r : am_Row) : Bool := match r.2.1 with
  | .iconst n => decide (r.2.2.2.2 = .int (Int32.ofInt n))
  | .bipush n => decide (r.2.2.2.2 = .int (Int8.ofInt n).toInt32)
  | .sipush n => decide (r.2.2.2.2 = .int (Int16.ofInt n).toInt32)
  | .lconst n => decide (r.2.2.2.2 = .long (Int64.ofNat (n : Nat)))
  | .dconst n => decide (r.2.2.2.2 = .double (if n = 0 then FP.dconst0 else FP.dconst1))
  | .iinc _ n => decide (r.2.2.2.2 = .int (Int32.ofInt n))
  | .ldc i => match r.2.2.2.2 with | .int v => decide (Jvm.Cond.constant own i v ∈ big) | _ => true
  | .ldc_w i => match r.2.2.2.2 with | .int v => decide (Jvm.Cond.constant own i v ∈ big) | _ => true
  | .ldc2_w i => match r.2.2.2.2 with | .long v => decide (Jvm.Cond.constantLong own i v ∈ big) | .double v => decide (Jvm.Cond.constantDouble own i v ∈ big) | _ => true
  | .goto off => decide ((r.1 : Int) + off = (r.2.2.2.1 : Int))
  | .ifCond _ off => decide ((r.1 : Int) + off = (r.2.2.2.1 : Int))
  | .if_icmp _ off => decide ((r.1 : Int) + off = (r.2.2.2.1 : Int))
  | _ => true
def am_okRow (own : String) (cc : ByteArray) (big : List Jvm.Cond) (r : am_Row) : Prop := decode cc r.1 = .ok (r.2.1, am_len r.2.1) ∧ r.2.2.1 = r.1 + am_len r.2.1 ∧ am_okK own big r = true
def am_find : List am_Row → Nat → Option am_Row
  | [], _ => none
  | r :: t, pc => bif Nat.beq r.1 pc then some r else am_find t pc
theorem am_find_ok : ∀ {tb : List am_Row} {pc : Nat} {r : am_Row}, am_find tb pc = some r → r ∈ tb ∧ r.1 = pc
  | [], _, _, h => nomatch h
  | r0 :: t, pc, r, h => by
    unfold am_find at h
    cases e : Nat.beq r0.1 pc <;> rw [e] at h <;> simp only [cond_true, cond_false] at h
    · have := am_find_ok h
      exact ⟨List.mem_cons_of_mem _ this.1, this.2⟩
    · cases h
      exact ⟨List.mem_cons_self, Nat.eq_of_beq_eq_true e⟩
def am_isk : Nat → Value → Bool
  | 0, .int _ => true
  | 1, .ref _ => true
  | 1, .null => true
  | 2, .long _ => true
  | 3, .double _ => true
  | _, _ => false
def am_ld (kd : Nat) (lo : am_L) (i : Nat) : Option Value := match lo[i]? with
  | some (some v) => bif am_isk kd v then some v else none
  | _ => none
theorem am_ld_ok {kd : Nat} {lo : am_L} {i : Nat} {v : Value} (h : am_ld kd lo i = some v) : lo[i]? = some (some v) ∧ am_isk kd v = true := by
  unfold am_ld at h
  split at h
  · rename_i w hw
    cases e : am_isk kd w <;> rw [e] at h <;> simp only [cond_true, cond_false] at h
    · cases h
    · cases h
      exact ⟨hw, e⟩
  · cases h
theorem am_isk0 {v : Value} (h : am_isk 0 v = true) : ∃ x, v = .int x := by cases v <;> first | exact ⟨_, rfl⟩ | exact absurd h (by simp [am_isk])
theorem am_isk1 {v : Value} (h : am_isk 1 v = true) : v = .null ∨ ∃ x, v = .ref x := by cases v <;> first | exact Or.inl rfl | exact Or.inr ⟨_, rfl⟩ | exact absurd h (by simp [am_isk])
theorem am_isk2 {v : Value} (h : am_isk 2 v = true) : ∃ x, v = .long x := by cases v <;> first | exact ⟨_, rfl⟩ | exact absurd h (by simp [am_isk])
theorem am_isk3 {v : Value} (h : am_isk 3 v = true) : ∃ x, v = .double x := by cases v <;> first | exact ⟨_, rfl⟩ | exact absurd h (by simp [am_isk])
/-- instructions that push one value -/
def am_push (r : am_Row) (lo : am_L) : Option Value := match r.2.1 with
  | .iconst _ => some r.2.2.2.2
  | .bipush _ => some r.2.2.2.2
  | .sipush _ => some r.2.2.2.2
  | .lconst _ => some r.2.2.2.2
  | .dconst _ => some r.2.2.2.2
  | .ldc _ => bif am_isk 0 r.2.2.2.2 then some r.2.2.2.2 else none
  | .ldc_w _ => bif am_isk 0 r.2.2.2.2 then some r.2.2.2.2 else none
  | .ldc2_w _ => bif am_isk 2 r.2.2.2.2 || am_isk 3 r.2.2.2.2 then some r.2.2.2.2 else none
  | .iload_n k => am_ld 0 lo k
  | .iload k => am_ld 0 lo k
  | .aload_n k => am_ld 1 lo k
  | .aload k => am_ld 1 lo k
  | .lload_n k => am_ld 2 lo k
  | .lload k => am_ld 2 lo k
  | .dload_n k => am_ld 3 lo k
  | .dload k => am_ld 3 lo k
  | _ => none
/-- of two values that lie on top (the upper first), one -/
def am_bin : Instr → Value → Value → Option Value
  | .iadd, .int y, .int x => some (.int (x + y))
  | .isub, .int y, .int x => some (.int (x - y))
  | .imul, .int y, .int x => some (.int (x * y))
  | .iand, .int y, .int x => some (.int (x &&& y))
  | .ior, .int y, .int x => some (.int (x ||| y))
  | .ixor, .int y, .int x => some (.int (x ^^^ y))
  | .ishl, .int y, .int x => some (.int (x <<< (y &&& 31)))
  | .ishr, .int y, .int x => some (.int (x >>> (y &&& 31)))
  | .iushr, .int y, .int x => some (.int (x.toUInt32 >>> (y.toUInt32 &&& Int32.toUInt32 31)).toInt32)
  | .ladd, .long y, .long x => some (.long (x + y))
  | .lmul, .long y, .long x => some (.long (x * y))
  | .lcmp, .long y, .long x => some (.int (lg_cmp x y))
  | .dcmp op, .double y, .double x => some (.int (Op.cmpValue (FP.dcmp x y) op))
  | .idiv, .int y, .int x => if y = 0 then none else some (.int (x / y))
  | .irem, .int y, .int x => if y = 0 then none else some (.int (x - x / y * y))
  | _, _, _ => none
def am_un : Instr → Value → Option Value
  | .i2l, .int x => some (.long x.toInt64)
  | .l2i, .long x => some (.int x.toInt32)
  | .i2d, .int x => some (.double (FP.i2d x))
  | .ineg, .int x => some (.int (-x))
  | _, _ => none
/-- the stack by itself -/
def am_stk : Instr → List Value → Option (List Value)
  | .dup, .int x :: t => some (.int x :: .int x :: t)
  | .dup, .ref x :: t => some (.ref x :: .ref x :: t)
  | .dup, .null :: t => some (.null :: .null :: t)
  | .pop, .int _ :: t => some t
  | .pop, .ref _ :: t => some t
  | .pop, .null :: t => some t
  | .dup2, .int x :: .int y :: t => some (.int x :: .int y :: .int x :: .int y :: t)
  | .dup2, .int x :: .ref y :: t => some (.int x :: .ref y :: .int x :: .ref y :: t)
  | i, y :: x :: t => match am_bin i y x with
    | some v => some (v :: t)
    | none => match am_un i y with
      | some v => some (v :: x :: t)
      | none => none
  | i, y :: t => match am_un i y with
    | some v => some (v :: t)
    | none => none
  | _, _ => none
def am_sto : Instr → List Value → am_L → Option (am_L × List Value)
  | .istore_n k, .int x :: t, lo => (am_st1 lo k (.int x)).map (·, t)
  | .istore k, .int x :: t, lo => (am_st1 lo k (.int x)).map (·, t)
  | .astore_n k, .ref x :: t, lo => (am_st1 lo k (.ref x)).map (·, t)
  | .astore k, .ref x :: t, lo => (am_st1 lo k (.ref x)).map (·, t)
  | .lstore_n k, .long x :: t, lo => (am_st2 lo k (.long x)).map (·, t)
  | .lstore k, .long x :: t, lo => (am_st2 lo k (.long x)).map (·, t)
  | .dstore_n k, .double x :: t, lo => (am_st2 lo k (.double x)).map (·, t)
  | .dstore k, .double x :: t, lo => (am_st2 lo k (.double x)).map (·, t)
  | _, _, _ => none
section AMW
variable {D : va_G} {cl : List vw_C} {cA : Nat → ClassId} {sb base : Nat} {p : Program} {l : Launch} {e : Env} {R : Room} {s : State} {m : MethodId} {args : Array Value} {below : List Frame} {meth : Method} {c : Code} {nL : Nat} {Q : State → Prop}
/-- from this frame and these cells the machine comes to a state with Q; rc cells of rs slots may still be made -/
def am_W (D : va_G) (cl : List vw_C) (cA : Nat → ClassId) (sb base : Nat) (p : Program) (l : Launch) (e : Env) (R : Room) (s : State) (m : MethodId) (args : Array Value) (below : List Frame) (meth : Method) (c : Code) (nL : Nat) (Q : State → Prop) (pc : Nat) (lo : am_L) (st : List Value) (h : am_H) (rc rs : Nat) : Prop :=
  ∀ (H : Heap) (locs : List Loc) (cells slots : Nat) (ls : Array Slot), am_R D cl cA sb base s h H → va_S (fun q => base ≤ q) s.heap H locs → cells + rc ≤ R.cells → slots + rs ≤ R.slots → am_LR (am_cv sb base) ls nL lo →
    W p l e R s m args below meth c H locs cells slots Q (F0 m pc ls (st.map (am_cv sb base)))
variable {cc : ByteArray} {own : String} {big : List Jvm.Cond} {r : am_Row} {lo lo' : am_L} {st st' : List Value} {h : am_H} {rc rs : Nat} {v : Value}
theorem am_push_ok (hx : p.tables.exec = Jvm.exec) (hb : c.code = cc) (hown : s.vm.findClass own = some m.cls) (hts : ∀ w ∈ big, w.before args s = true) (hr : am_okRow own cc big r) (hp : am_push r lo = some v)
    (k : am_W D cl cA sb base p l e R s m args below meth c nL Q r.2.2.1 lo (v :: st) h rc rs) : am_W D cl cA sb base p l e R s m args below meth c nL Q r.1 lo st h rc rs := by
  obtain ⟨pc, i, nx, tg, kv⟩ := r
  obtain ⟨hd, hn, hk⟩ := hr
  dsimp only at hd hn hp k ⊢
  subst hn
  intro H locs cells slots ls hR hS h1 h2 hl
  have K := k H locs cells slots ls hR hS h1 h2 hl
  clear k
  unfold am_push at hp
  dsimp only at hp
  split at hp
  all_goals first
    | (cases hp; done)
    | skip
  · cases hp
    have hk := of_decide_eq_true hk
    dsimp only at hk; subst hk
    exact lv_iconst hx hb hd rfl K
  · cases hp
    have hk := of_decide_eq_true hk
    dsimp only at hk; subst hk
    exact lv_bipush hx hb hd rfl K
  · cases hp
    have hk := of_decide_eq_true hk
    dsimp only at hk; subst hk
    exact lv_sipush hx hb hd rfl K
  · cases hp
    have hk := of_decide_eq_true hk
    dsimp only at hk; subst hk
    exact lv_lconst hx hb hd rfl K
  · rename_i n
    cases hp
    have hk := of_decide_eq_true hk
    dsimp only at hk; subst hk
    by_cases e : n = 0
    · subst e
      exact lv_dconst0 hx hb hd K
    · have e1 : n = 1 := by omega
      subst e1
      exact lv_dconst1 hx hb hd K
  · cases e : am_isk 0 kv <;> rw [e] at hp <;> simp only [cond_true, cond_false] at hp
    · cases hp
    · cases hp
      obtain ⟨x, rfl⟩ := am_isk0 e
      exact lv_ldc hx hb hown (hts _ (of_decide_eq_true hk)) hd K
  · cases e : am_isk 0 kv <;> rw [e] at hp <;> simp only [cond_true, cond_false] at hp
    · cases hp
    · cases hp
      obtain ⟨x, rfl⟩ := am_isk0 e
      exact lv_ldcw hx hb hown (hts _ (of_decide_eq_true hk)) hd K
  · cases e : (am_isk 2 kv || am_isk 3 kv) <;> rw [e] at hp <;> simp only [cond_true, cond_false] at hp
    · cases hp
    · cases hp
      rcases Bool.or_eq_true_iff.mp e with e | e
      · obtain ⟨x, rfl⟩ := am_isk2 e
        exact lv_ldc2 hx hb hown (hts _ (of_decide_eq_true hk)) hd K
      · obtain ⟨x, rfl⟩ := am_isk3 e
        exact lv_ldc2d hx hb hown (hts _ (of_decide_eq_true hk)) hd K
  · obtain ⟨e1, e2⟩ := am_ld_ok hp
    obtain ⟨x, rfl⟩ := am_isk0 e2
    exact lv_iload_n hx hb hd rfl (hl.at e1) K
  · obtain ⟨e1, e2⟩ := am_ld_ok hp
    obtain ⟨x, rfl⟩ := am_isk0 e2
    exact lv_iload hx hb hd (hl.at e1) K
  · obtain ⟨e1, e2⟩ := am_ld_ok hp
    rcases am_isk1 e2 with rfl | ⟨x, rfl⟩
    · exact lv_aload_nN hx hb hd rfl (hl.at e1) K
    · exact lv_aload_n hx hb hd rfl (hl.at e1) K
  · obtain ⟨e1, e2⟩ := am_ld_ok hp
    rcases am_isk1 e2 with rfl | ⟨x, rfl⟩
    · exact lv_aloadN hx hb hd (hl.at e1) K
    · exact lv_aload hx hb hd (hl.at e1) K
  · obtain ⟨e1, e2⟩ := am_ld_ok hp
    obtain ⟨x, rfl⟩ := am_isk2 e2
    exact lv_lload_n hx hb hd rfl (hl.at e1) K
  · obtain ⟨e1, e2⟩ := am_ld_ok hp
    obtain ⟨x, rfl⟩ := am_isk2 e2
    exact lv_lload hx hb hd (hl.at e1) K
  · obtain ⟨e1, e2⟩ := am_ld_ok hp
    obtain ⟨x, rfl⟩ := am_isk3 e2
    exact lv_dload_n hx hb hd rfl (hl.at e1) K
  · obtain ⟨e1, e2⟩ := am_ld_ok hp
    obtain ⟨x, rfl⟩ := am_isk3 e2
    exact lv_dload hx hb hd (hl.at e1) K
theorem am_bin_ok (hx : p.tables.exec = Jvm.exec) (hb : c.code = cc) (hr : am_okRow own cc big r) {y x : Value} (hp : am_bin r.2.1 y x = some v)
    (k : am_W D cl cA sb base p l e R s m args below meth c nL Q r.2.2.1 lo (v :: st) h rc rs) : am_W D cl cA sb base p l e R s m args below meth c nL Q r.1 lo (y :: x :: st) h rc rs := by
  obtain ⟨pc, i, nx, tg, kv⟩ := r
  obtain ⟨hd, hn, hk⟩ := hr
  dsimp only at hd hn hp k ⊢
  subst hn
  intro H locs cells slots ls hR hS h1 h2 hl
  have K := k H locs cells slots ls hR hS h1 h2 hl
  clear k
  unfold am_bin at hp
  split at hp
  · cases hp; exact lv_iadd hx hb hd K
  · cases hp; exact lv_isub hx hb hd K
  · cases hp; exact lv_imul hx hb hd K
  · cases hp; exact lv_iand hx hb hd K
  · cases hp; exact lv_ior hx hb hd K
  · cases hp; exact lv_ixor hx hb hd K
  · cases hp; exact lv_ishl hx hb hd K
  · cases hp; exact lv_ishr hx hb hd K
  · cases hp; exact lv_iushr hx hb hd rfl K
  · cases hp; exact lv_ladd hx hb hd K
  · cases hp; exact lv_lmul hx hb hd K
  · cases hp; exact W.lcmp hx hb hd K
  · cases hp; exact lv_dcmp hx hb hd K
  · split at hp
    · cases hp
    · rename_i hne
      cases hp
      exact lv_idiv hx hb hd hne K
  · split at hp
    · cases hp
    · rename_i hne
      cases hp
      exact lv_irem hx hb hd hne K
  · cases hp
theorem am_un_ok (hx : p.tables.exec = Jvm.exec) (hb : c.code = cc) (hr : am_okRow own cc big r) {y : Value} (hp : am_un r.2.1 y = some v)
    (k : am_W D cl cA sb base p l e R s m args below meth c nL Q r.2.2.1 lo (v :: st) h rc rs) : am_W D cl cA sb base p l e R s m args below meth c nL Q r.1 lo (y :: st) h rc rs := by
  obtain ⟨pc, i, nx, tg, kv⟩ := r
  obtain ⟨hd, hn, hk⟩ := hr
  dsimp only at hd hn hp k ⊢
  subst hn
  intro H locs cells slots ls hR hS h1 h2 hl
  have K := k H locs cells slots ls hR hS h1 h2 hl
  clear k
  unfold am_un at hp
  split at hp
  · cases hp; exact lv_i2l hx hb hd rfl K
  · cases hp; exact lv_l2i hx hb hd rfl K
  · cases hp; exact lv_i2d hx hb hd K
  · cases hp; exact lv_ineg hx hb hd K
  · cases hp
theorem am_stk_ok (hx : p.tables.exec = Jvm.exec) (hb : c.code = cc) (hr : am_okRow own cc big r) (hp : am_stk r.2.1 st = some st')
    (k : am_W D cl cA sb base p l e R s m args below meth c nL Q r.2.2.1 lo st' h rc rs) : am_W D cl cA sb base p l e R s m args below meth c nL Q r.1 lo st h rc rs := by
  have hr0 := hr
  obtain ⟨pc, i, nx, tg, kv⟩ := r
  obtain ⟨hd, hn, hk⟩ := hr
  dsimp only at hd hn hp
  unfold am_stk at hp
  split at hp
  · cases hp
    intro H locs cells slots ls hR hS h1 h2 hl
    have K := k H locs cells slots ls hR hS h1 h2 hl
    dsimp only at K ⊢
    subst hn
    exact lv_dup hx hb hd rfl K
  · cases hp
    intro H locs cells slots ls hR hS h1 h2 hl
    have K := k H locs cells slots ls hR hS h1 h2 hl
    dsimp only at K ⊢
    subst hn
    exact lv_dup hx hb hd rfl K
  · cases hp
    intro H locs cells slots ls hR hS h1 h2 hl
    have K := k H locs cells slots ls hR hS h1 h2 hl
    dsimp only at K ⊢
    subst hn
    exact lv_dup hx hb hd rfl K
  · cases hp
    intro H locs cells slots ls hR hS h1 h2 hl
    have K := k H locs cells slots ls hR hS h1 h2 hl
    dsimp only at K ⊢
    subst hn
    exact lv_pop hx hb hd rfl K
  · cases hp
    intro H locs cells slots ls hR hS h1 h2 hl
    have K := k H locs cells slots ls hR hS h1 h2 hl
    dsimp only at K ⊢
    subst hn
    exact lv_pop hx hb hd rfl K
  · cases hp
    intro H locs cells slots ls hR hS h1 h2 hl
    have K := k H locs cells slots ls hR hS h1 h2 hl
    dsimp only at K ⊢
    subst hn
    exact lv_pop hx hb hd rfl K
  · cases hp
    intro H locs cells slots ls hR hS h1 h2 hl
    have K := k H locs cells slots ls hR hS h1 h2 hl
    dsimp only at K ⊢
    subst hn
    exact lv_dup2_11 hx hb hd rfl rfl K
  · cases hp
    intro H locs cells slots ls hR hS h1 h2 hl
    have K := k H locs cells slots ls hR hS h1 h2 hl
    dsimp only at K ⊢
    subst hn
    exact lv_dup2_11 hx hb hd rfl rfl K
  · split at hp
    · rename_i hv
      cases hp
      exact am_bin_ok hx hb hr0 hv k
    · split at hp
      · rename_i hv
        cases hp
        exact am_un_ok hx hb hr0 hv k
      · cases hp
  · split at hp
    · rename_i hv
      cases hp
      exact am_un_ok hx hb hr0 hv k
    · cases hp
  · cases hp
theorem am_sto_ok (hx : p.tables.exec = Jvm.exec) (hb : c.code = cc) (hr : am_okRow own cc big r) (hp : am_sto r.2.1 st lo = some (lo', st'))
    (k : am_W D cl cA sb base p l e R s m args below meth c nL Q r.2.2.1 lo' st' h rc rs) : am_W D cl cA sb base p l e R s m args below meth c nL Q r.1 lo st h rc rs := by
  obtain ⟨pc, i, nx, tg, kv⟩ := r
  obtain ⟨hd, hn, hk⟩ := hr
  dsimp only at hd hn hp k ⊢
  subst hn
  intro H locs cells slots ls hR hS h1 h2 hl
  have K := fun ls hl => k H locs cells slots ls hR hS h1 h2 hl
  clear k
  have fin : ∀ {ls' : Array Slot} {L : List (Nat × Value)} {lo1 : am_L}, lo1.length ≤ nL → (∀ q ∈ am_lp (am_cv sb base) 0 lo1, q ∈ L) → lv_has ls' nL L → am_LR (am_cv sb base) ls' nL lo1 :=
    fun a b h3 => ⟨a, h3.1, h3.2.1, fun q hq => h3.2.2 q (b q hq)⟩
  unfold am_sto at hp
  split at hp
  all_goals first
    | (cases hp; done)
    | (obtain ⟨lo1, e1, e2⟩ := Option.map_eq_some_iff.mp hp
       cases e2
       first
       | (obtain ⟨a1, a2, a3⟩ := am_st1_ok (am_cv_cat sb base) hl e1 rfl
          first
          | exact lv_istore_n hx hb hd rfl hl.2 a1 rfl (fun ls' h' => K ls' (fin a2 a3 h'))
          | exact lv_istore hx hb hd hl.2 a1 rfl (fun ls' h' => K ls' (fin a2 a3 h'))
          | exact lv_astore_n hx hb hd rfl hl.2 a1 rfl (fun ls' h' => K ls' (fin a2 a3 h'))
          | exact lv_astore hx hb hd hl.2 a1 rfl (fun ls' h' => K ls' (fin a2 a3 h')))
       | (obtain ⟨a1, a2, a3⟩ := am_st2_ok (am_cv_cat sb base) hl e1
          first
          | exact lv_lstore_n hx hb hd rfl hl.2 a1 rfl (fun ls' h' => K ls' (fin a2 a3 h'))
          | exact lv_lstore hx hb hd hl.2 a1 rfl (fun ls' h' => K ls' (fin a2 a3 h'))
          | exact lv_dstore_n hx hb hd rfl hl.2 a1 rfl (fun ls' h' => K ls' (fin a2 a3 h'))
          | exact lv_dstore hx hb hd hl.2 a1 rfl (fun ls' h' => K ls' (fin a2 a3 h'))))
theorem am_goto_ok (hx : p.tables.exec = Jvm.exec) (hb : c.code = cc) (hr : am_okRow own cc big r) {off : Int} (hi : r.2.1 = .goto off)
    (k : am_W D cl cA sb base p l e R s m args below meth c nL Q r.2.2.2.1 lo st h rc rs) : am_W D cl cA sb base p l e R s m args below meth c nL Q r.1 lo st h rc rs := by
  obtain ⟨pc, i, nx, tg, kv⟩ := r
  obtain ⟨hd, hn, hk⟩ := hr
  dsimp only at hd hn hi k ⊢
  subst hi
  intro H locs cells slots ls hR hS h1 h2 hl
  exact lv_goto hx hb hd (of_decide_eq_true hk) (k H locs cells slots ls hR hS h1 h2 hl)
theorem am_iinc_ok (hx : p.tables.exec = Jvm.exec) (hb : c.code = cc) (hr : am_okRow own cc big r) {j : Nat} {n : Int} {x y : Int32} (hi : r.2.1 = .iinc j n) (hy : r.2.2.2.2 = .int y) (hj : lo[j]? = some (some (.int x))) (hs : am_st1 lo j (.int (x + y)) = some lo')
    (k : am_W D cl cA sb base p l e R s m args below meth c nL Q r.2.2.1 lo' st h rc rs) : am_W D cl cA sb base p l e R s m args below meth c nL Q r.1 lo st h rc rs := by
  obtain ⟨pc, i, nx, tg, kv⟩ := r
  obtain ⟨hd, hn, hk⟩ := hr
  dsimp only at hd hn hi hy k ⊢
  subst hi
  subst hn
  subst hy
  have hk := of_decide_eq_true hk
  dsimp only at hk
  cases hk
  intro H locs cells slots ls hR hS h1 h2 hl
  obtain ⟨a1, a2, a3⟩ := am_st1_ok (am_cv_cat sb base) hl hs rfl
  have hm : (j, Value.int x) ∈ am_lp (am_cv sb base) 0 lo := am_lp_mem.mpr ⟨Nat.zero_le _, .int x, hj, rfl⟩
  obtain ⟨q, hq⟩ := List.getElem?_of_mem hm
  exact lv_iinc hx hb hd hl.2 hq rfl a1 rfl (fun ls' h' => k H locs cells slots ls' hR hS h1 h2 ⟨a2, h'.1, h'.2.1, fun q hq => h'.2.2 q (a3 q hq)⟩)
end AMW
end
section
/-! THE PLAIN MACHINE: fields and arrays. -/
def am_tys : List FieldType := [.int, .boolean, .long, .double, .object "TraceAligner$Trace", .array .int]
/-- a field's row: pool index, class, place, kind (0 int, 1 boolean, 2 reference, 3 long, 4 double), final -/
abbrev am_FR : Type := Nat × Nat × Nat × Nat × Bool
def am_kd : Nat → FieldType → Bool
  | 0, .int => true
  | 1, .boolean => true
  | 2, .object _ => true
  | 2, .array _ => true
  | 3, .long => true
  | 4, .double => true
  | 9, _ => true
  | _, _ => false
def am_fit : Nat → Value → Bool
  | 0, .int _ => true
  | 1, .int x => bif x == 0 then true else x == 1
  | 2, .ref _ => true
  | 2, .null => true
  | 3, .long _ => true
  | 4, .double _ => true
  | _, _ => false
def am_okC (big : List Jvm.Cond) (q : vw_C) : Prop := (∀ w ∈ u_ws q.1 q.2.1 q.2.2, w ∈ big) ∧ (∀ a, a < q.2.2 → ∀ b, b < q.2.2 → a ≠ b → (q.2.1 a).2.1 ≠ (q.2.1 b).2.1) ∧ ∃ ty0 : Nat → FieldType, ∀ k, k < q.2.2 → parseFieldDescriptor (q.2.1 k).2.2.1 = some (ty0 k)
def am_okF (own : String) (cl : List vw_C) (big : List Jvm.Cond) (q : am_FR) : Prop :=
  ∃ (C : String) (T : u_T) (N : Nat), cl[q.2.1]? = some (C, T, N) ∧ am_okC big (C, T, N) ∧ q.2.2.1 < N ∧ Jvm.Cond.fieldLink own q.1 (T q.2.2.1).1 (T q.2.2.1).2.1 (T q.2.2.1).2.2.1 ∈ big ∧
    (∃ ty, parseFieldDescriptor (T q.2.2.1).2.2.1 = some ty ∧ am_kd q.2.2.2.1 ty = true) ∧ (q.2.2.2.1 = 9 ∨ (T q.2.2.1).2.2.2 = q.2.2.2.2) ∧ (q.2.2.2.2 = true → (T q.2.2.1).1 = own)
theorem am_fit_ok {kd sb base : Nat} {ty : FieldType} {v : Value} (h : am_kd kd ty = true) (hv : am_fit kd v = true) : narrow ty (am_cv sb base v) = am_cv sb base v ∧ fits ty (am_cv sb base v) = true := by
  unfold am_kd at h
  split at h
  all_goals first
    | (cases h; done)
    | (cases v <;> first
        | (exact ⟨rfl, rfl⟩)
        | (rename_i x
           obtain rfl | rfl : x = 0 ∨ x = 1 := by simpa [am_fit, Bool.cond_eq_ite, Bool.or_eq_true] using hv
           · exact ⟨rfl, rfl⟩
           · exact ⟨rfl, rfl⟩)
        | (exact absurd hv (by simp [am_fit])))
def am_rv (f : Nat → Option Nat) (k : Nat) : Value := match f k with
  | none => .null
  | some a => .ref a
/-- what an array of kind t gives -/
def am_aget : Instr → Nat → vp_A → Nat → Option Value
  | .iaload, 0, (_, .inl f), k => some (.int (f k))
  | .iaload, 99, (_, .inl f), k => some (.int (f k))
  | .baload, 1, (_, .inl f), k => bif am_on 1 then some (.int (f k)) else none
  | .laload, 2, (_, .inr (.inl f)), k => bif am_on 2 then some (.long (f k)) else none
  | .daload, 3, (_, .inr (.inr (.inr (.inl f)))), k => bif am_on 3 then some (.double (f k)) else none
  | .aaload, 4, (_, .inr (.inr (.inr (.inr f)))), k => some (am_rv f k)
  | .aaload, 5, (_, .inr (.inr (.inr (.inr f)))), k => some (am_rv f k)
  | _, _, _, _ => none
def am_aset : Instr → Nat → vp_A → Nat → Value → Option vp_A
  | .iastore, 0, (n, .inl f), k, .int y => some (n, .inl (upd f k y))
  | .bastore, 1, (n, .inl f), k, .int y => bif am_fit 1 (.int y) && am_on 1 then some (n, .inl (upd f k y)) else none
  | .lastore, 2, (n, .inr (.inl f)), k, .long y => bif am_on 2 then some (n, .inr (.inl (vp_updL f k y))) else none
  | .dastore, 3, (n, .inr (.inr (.inr (.inl f)))), k, .double y => bif am_on 3 then some (n, .inr (.inr (.inr (.inl (vf_upd f k y))))) else none
  | _, _, _, _, _ => none
section AMH
variable {D : va_G} {cl : List vw_C} {cA : Nat → ClassId} {sb base : Nat} {p : Program} {l : Launch} {e : Env} {R : Room} {s : State} {m : MethodId} {args : Array Value} {below : List Frame} {meth : Method} {c : Code} {nL : Nat} {Q : State → Prop}
variable {cc : ByteArray} {own : String} {big : List Jvm.Cond} {r : am_Row} {lo lo' : am_L} {st st' : List Value} {h : am_H} {rc rs : Nat} {v : Value}
theorem am_get_ok (hx : p.tables.exec = Jvm.exec) (hb : c.code = cc) (hown : s.vm.findClass own = some m.cls) (hts : ∀ w ∈ big, w.before args s = true) (hK : am_K D cl cA am_tys s) (hr : am_okRow own cc big r) {q : am_FR} (hq : am_okF own cl big q) (hi : r.2.1 = .getfield q.1)
    {a ci : Nat} {vs : List Value} (ha : h[a]? = some (.inr (ci, vs))) (hci : ci = q.2.1) (hv : vs[q.2.2.1]? = some v)
    (k : am_W D cl cA sb base p l e R s m args below meth c nL Q r.2.2.1 lo (v :: st) h rc rs) : am_W D cl cA sb base p l e R s m args below meth c nL Q r.1 lo (.ref a :: st) h rc rs := by
  obtain ⟨pc, i, nx, tg, kv⟩ := r
  obtain ⟨hd, hn, hk⟩ := hr
  obtain ⟨fi0, fci, fk, fkd, ffin⟩ := q
  obtain ⟨C, T, N, hc, ⟨hin, -⟩, hkN, hlink, -⟩ := hq
  dsimp only at hd hn hi hc hkN hlink hci hv k ⊢
  subst hi hn hci
  intro H locs cells slots ls hR hS h1 h2 hl
  have K := k H locs cells slots ls hR hS h1 h2 hl
  obtain ⟨r', e1, cell, q1, q2, q3, q4⟩ := hR.2.2.2 a _ ha
  have hr' : r' = (C, T, N) := Option.some.inj (e1.symm.trans hc)
  subst hr'
  obtain ⟨hSl, hfc, kC, hkC, hkind⟩ := hK.1 ci _ hc
  obtain ⟨cf, kf, fi, f, hfo, hsl⟩ := hSl fk hkN
  refine W.getf hx hb hown (hts _ hlink) hfo (u_facts hfc hkC (u_lays hts hin hkN) hfo).1 q1 (by rw [q3]; exact fun h => by cases h) (v := am_cv sb base v) ?_ rfl rfl hd K
  rw [hsl, q4 fk hkN]
  simp [vp_V, hv]
theorem am_put_ok (hx : p.tables.exec = Jvm.exec) (hb : c.code = cc) (hown : s.vm.findClass own = some m.cls) (hts : ∀ w ∈ big, w.before args s = true) (hK : am_K D cl cA am_tys s) (hr : am_okRow own cc big r) {q : am_FR} (hq : am_okF own cl big q) (hi : r.2.1 = .putfield q.1)
    (hfin : q.2.2.2.2 = true → meth.name = "<init>") {a ci : Nat} {vs : List Value} (ha : h[a]? = some (.inr (ci, vs))) (hci : ci = q.2.1) (hv : q.2.2.1 < vs.length) (hfit : am_fit q.2.2.2.1 v = true)
    (k : am_W D cl cA sb base p l e R s m args below meth c nL Q r.2.2.1 lo st (h.set a (.inr (ci, vs.set q.2.2.1 v))) rc rs) : am_W D cl cA sb base p l e R s m args below meth c nL Q r.1 lo (v :: .ref a :: st) h rc rs := by
  obtain ⟨pc, i, nx, tg, kv⟩ := r
  obtain ⟨hd, hn, hk⟩ := hr
  obtain ⟨fi0, fci, fk, fkd, ffin⟩ := q
  obtain ⟨C, T, N, hc, ⟨hin, hnm, ty0, hty⟩, hkN, hlink, ⟨ty, hpd, hkd⟩, hff, hfo1⟩ := hq
  dsimp only at hd hn hi hc hkN hlink hci hv k hfin hfit hpd hkd hff hfo1 ⊢
  subst hi hn hci
  have hff : (T fk).2.2.2 = ffin := hff.resolve_left (by rintro rfl; exact absurd hfit (by simp [am_fit]))
  intro H locs cells slots ls hR hS h1 h2 hl
  have a0 : a ≠ 0 := by
    rintro rfl
    obtain ⟨x, hx⟩ := hR.2.2.1
    rw [hx] at ha
    cases ha
  have aB : base ≤ am_ad sb base a := by
    obtain ⟨j, rfl⟩ : ∃ j, a = j + 1 := ⟨a - 1, by omega⟩
    exact am_ad_ge
  obtain ⟨r', e1, cell, q1, q2, q3, q4⟩ := hR.2.2.2 a _ ha
  have hr' : r' = (C, T, N) := Option.some.inj (e1.symm.trans hc)
  subst hr'
  obtain ⟨hSl, hfc, kC, hkC, hkind⟩ := hK.1 ci _ hc
  obtain ⟨cf, kf, fi, f, hfo, hsl⟩ := hSl fk hkN
  obtain ⟨nw, ft⟩ := am_fit_ok (sb := sb) (base := base) hkd hfit
  have hap : ∀ x y, x < N → y < N → x ≠ y → (D.2 ci) x ≠ (D.2 ci) y := by
    intro x y hx hy hne
    obtain ⟨_, _, _, fa, hia, ea⟩ := hSl x hx
    obtain ⟨_, _, _, fb, hib, eb⟩ := hSl y hy
    rw [← ea, ← eb]
    refine u_apart (u_lays hts hin hx) (u_lays hts hin hy) hia hib ?_
    rw [(State.fieldFound?_type hia (hty x hx)).1, (State.fieldFound?_type hib (hty y hy)).1]
    exact hnm x hx y hy hne
  have hst := (u_facts hfc hkC (u_lays hts hin hkN) hfo).1
  have hlay := hts _ (hin _ (u_in_lay hkN))
  unfold u_lay at hlay
  have next : ∀ H' : Heap, H'[am_ad sb base a]? = some (cell.setSlot f.slot (am_cv sb base v)) → H'.size = H.size → (∀ q, q ≠ am_ad sb base a → H'[q]? = H[q]?) →
      W p l e R s m args below meth c H' (locs ++ [⟨am_ad sb base a, f.slot⟩]) cells slots Q (F0 m (pc + 3) ls (st.map (am_cv sb base))) := by
    intro H' e1 e2 e3
    rw [hsl] at e1 ⊢
    refine k H' _ cells slots ls (hR.set ha e2 e3 a0 ⟨_, hc, t_OB.to (V := updV (vp_V (vs.map (am_cv sb base))) fk (am_cv sb base v)) ⟨_, e1, q2, q3, t_set q4 hap hkN _⟩ (fun j _ => ?_)⟩) (hS.put e2 e3 aB) h1 h2 hl
    rw [vp_updV_set (by rw [List.length_map]; exact hv), List.map_set]
  cases hfb : ffin with
  | false =>
    rw [hfb] at hff
    rw [if_neg (by rw [hff]; decide)] at hlay
    have h6 := u_store hfc hkC hkind hlay hfo hpd nw ft
    exact W.putK hx hb (f := f) ⟨hown, hts _ hlink, ⟨_, _, _, hfo⟩, hst⟩ (by rw [q2]; exact h6) q1 q3 (by rw [hsl]; exact k2_hasslot (q4 fk hkN)) rfl rfl hd next
  | true =>
    rw [hfb] at hff
    rw [if_pos hff] at hlay
    have hcf : m.cls = cf := by
      obtain ⟨_, _, c', _, _, _, -, -, hf', -, -, -, hown2, -⟩ := Cond.laysFinal_spec hlay
      have e1 : c' = cf := by have := hfo.symm.trans hf'; simp at this; exact this.1.symm
      rw [hfo1 hfb] at hown2
      rw [← e1]; exact Option.some.inj (hown.symm.trans hown2)
    have h6 := u_fits hfc hkC hkind (Or.inr hlay) hfo hpd nw ft
    exact W.putFinK hx hb hown (hts _ hlink) hfo hst hcf (hfin hfb) (by rw [q2]; exact h6) q1 q3 (by rw [hsl]; exact k2_hasslot (q4 fk hkN)) rfl rfl hd next
theorem am_rv_cv (f : Nat → Option Nat) (k : Nat) : am_cv sb base (am_rv f k) = va_rf ((f k).map (am_ad sb base)) := by
  unfold am_rv
  cases f k <;> rfl
theorem am_at_i {U : State} {H : Heap} {a t n : Nat} {f : Nat → Int32} (hA : am_at D cl cA sb base U H a (.inl (t, n, .inl f))) (ht : t ≠ 99 ∧ t ≠ 98) : H[a]? = some (arrV (cA t) n (fun j => .int (f j))) := (hA.2 ht.1).resolve_left fun z => ht.2 z.1
theorem am_at_l {U : State} {H : Heap} {a t n : Nat} {f : Nat → Int64} (hA : am_at D cl cA sb base U H a (.inl (t, n, .inr (.inl f)))) (ht : t ≠ 99 ∧ t ≠ 98) : H[a]? = some (arrV (cA t) n (fun j => .long (f j))) := (hA.2 ht.1).resolve_left fun z => ht.2 z.1
theorem am_at_d {U : State} {H : Heap} {a t n : Nat} {f : Nat → UInt64} (hA : am_at D cl cA sb base U H a (.inl (t, n, .inr (.inr (.inr (.inl f)))))) (ht : t ≠ 99 ∧ t ≠ 98) : H[a]? = some (arrV (cA t) n (fun j => .double (f j))) := (hA.2 ht.1).resolve_left fun z => ht.2 z.1
theorem am_at_q {U : State} {H : Heap} {a t n : Nat} {f : Nat → Option Nat} (hA : am_at D cl cA sb base U H a (.inl (t, n, .inr (.inr (.inr (.inr f)))))) (ht : t ≠ 99 ∧ t ≠ 98) : H[a]? = some (arrV (cA t) n (fun j => va_rf ((f j).map (am_ad sb base)))) := (hA.2 ht.1).resolve_left fun z => ht.2 z.1
theorem am_mk_i {U : State} {H : Heap} {a t n : Nat} {f : Nat → Int32} (ht : t ≠ 99) (e : H[a]? = some (arrV (cA t) n (fun j => .int (f j)))) : am_at D cl cA sb base U H a (.inl (t, n, .inl f)) := ⟨fun q => absurd q ht, fun _ => Or.inr e⟩
theorem am_mk_l {U : State} {H : Heap} {a t n : Nat} {f : Nat → Int64} (ht : t ≠ 99) (e : H[a]? = some (arrV (cA t) n (fun j => .long (f j)))) : am_at D cl cA sb base U H a (.inl (t, n, .inr (.inl f))) := ⟨fun q => absurd q ht, fun _ => Or.inr e⟩
theorem am_mk_d {U : State} {H : Heap} {a t n : Nat} {f : Nat → UInt64} (ht : t ≠ 99) (e : H[a]? = some (arrV (cA t) n (fun j => .double (f j)))) : am_at D cl cA sb base U H a (.inl (t, n, .inr (.inr (.inr (.inl f))))) := ⟨fun q => absurd q ht, fun _ => Or.inr e⟩
theorem am_mk_q {U : State} {H : Heap} {a t n : Nat} {f : Nat → Option Nat} (ht : t ≠ 99) (e : H[a]? = some (arrV (cA t) n (fun j => va_rf ((f j).map (am_ad sb base))))) : am_at D cl cA sb base U H a (.inl (t, n, .inr (.inr (.inr (.inr f))))) := ⟨fun q => absurd q ht, fun _ => Or.inr e⟩
theorem am_ald_ok (hx : p.tables.exec = Jvm.exec) (hb : c.code = cc) (hK : am_K D cl cA am_tys s) (hr : am_okRow own cc big r) {a t : Nat} {x : vp_A} {j : Int32} (ha : h[a]? = some (.inl (t, x))) (hin : vp_in j x.1) (hv : am_aget r.2.1 t x j.toNatClampNeg = some v)
    (k : am_W D cl cA sb base p l e R s m args below meth c nL Q r.2.2.1 lo (v :: st) h rc rs) : am_W D cl cA sb base p l e R s m args below meth c nL Q r.1 lo (.int j :: .ref a :: st) h rc rs := by
  obtain ⟨pc, i, nx, tg, kv⟩ := r
  obtain ⟨hd, hn, hk⟩ := hr
  dsimp only at hd hn hv k ⊢
  subst hn
  intro H locs cells slots ls hR hS h1 h2 hl
  have K := k H locs cells slots ls hR hS h1 h2 hl
  have hA := hR.2.2.2 a _ ha
  clear k
  unfold am_aget at hv
  split at hv
  · rename_i n f
    cases hv
    have hlt : j.toNatClampNeg < n := Nat.not_le.mp fun q => hin (Or.inr q)
    exact W.iald (v := .int (f j.toNatClampNeg)) hx hb (am_at_i hA (by decide)) ((hK.2.1 0 .int rfl rfl).1 n (fun j => .int (f j))) (fun q => by cases q) (by rw [arrV_size]; exact hin) (by rw [arrV_read _ _ hlt]) rfl rfl hd K
  · rename_i n f
    cases hv
    have hlt : j.toNatClampNeg < n := Nat.not_le.mp fun q => hin (Or.inr q)
    obtain ⟨scr, g1, g2, g3, g4, xs, g5, g6⟩ := hA.1 rfl
    dsimp only at g4 g5 g6
    cases g5
    exact W.iald (v := .int (f j.toNatClampNeg)) hx hb g1 g2 g3 (by rw [g4]; exact hin) (g6 _ hlt) rfl rfl hd K
  · rename_i n f
    cases ho : am_on 1 <;> rw [ho] at hv <;> simp only [cond_true, cond_false] at hv
    · cases hv
    cases hv
    have hlt : j.toNatClampNeg < n := Nat.not_le.mp fun q => hin (Or.inr q)
    exact W.zald (v := .int (f j.toNatClampNeg)) hx hb (am_at_i hA (by decide)) ((hK.2.1 1 .boolean rfl ho).1 n (fun j => .int (f j))) (fun q => by cases q) (by rw [arrV_size]; exact hin) (by rw [arrV_read _ _ hlt]) rfl rfl hd K
  · rename_i n f
    cases ho : am_on 2 <;> rw [ho] at hv <;> simp only [cond_true, cond_false] at hv
    · cases hv
    cases hv
    have hlt : j.toNatClampNeg < n := Nat.not_le.mp fun q => hin (Or.inr q)
    exact W.lald (v := .long (f j.toNatClampNeg)) hx hb (am_at_l hA (by decide)) ((hK.2.1 2 .long rfl ho).1 n (fun j => .long (f j))) (fun q => by cases q) (by rw [arrV_size]; exact hin) (by rw [arrV_read _ _ hlt]) rfl rfl hd K
  · rename_i n f
    cases ho : am_on 3 <;> rw [ho] at hv <;> simp only [cond_true, cond_false] at hv
    · cases hv
    cases hv
    have hlt : j.toNatClampNeg < n := Nat.not_le.mp fun q => hin (Or.inr q)
    exact W.dald (v := .double (f j.toNatClampNeg)) hx hb (am_at_d hA (by decide)) ((hK.2.1 3 .double rfl ho).1 n (fun j => .double (f j))) (fun q => by cases q) (by rw [arrV_size]; exact hin) (by rw [arrV_read _ _ hlt]) rfl rfl hd K
  · rename_i n f
    cases hv
    have hlt : j.toNatClampNeg < n := Nat.not_le.mp fun q => hin (Or.inr q)
    exact W.aald (v := am_cv sb base (am_rv f j.toNatClampNeg)) hx hb (am_at_q hA (by decide)) ((hK.2.1 4 _ rfl rfl).1 n (fun j => va_rf ((f j).map (am_ad sb base)))) rfl (fun q => by cases q) (by rw [arrV_size]; exact hin) (by show (arrV _ _ _).slots[_]? = _; rw [arrV_read _ _ hlt, am_rv_cv]) rfl rfl hd K
  · rename_i n f
    cases hv
    have hlt : j.toNatClampNeg < n := Nat.not_le.mp fun q => hin (Or.inr q)
    exact W.aald (v := am_cv sb base (am_rv f j.toNatClampNeg)) hx hb (am_at_q hA (by decide)) ((hK.2.1 5 _ rfl rfl).1 n (fun j => va_rf ((f j).map (am_ad sb base)))) rfl (fun q => by cases q) (by rw [arrV_size]; exact hin) (by show (arrV _ _ _).slots[_]? = _; rw [arrV_read _ _ hlt, am_rv_cv]) rfl rfl hd K
  · cases hv
theorem am_ast_ok (hx : p.tables.exec = Jvm.exec) (hb : c.code = cc) (hK : am_K D cl cA am_tys s) (hr : am_okRow own cc big r) {a t : Nat} {x y : vp_A} {j : Int32} (ha : h[a]? = some (.inl (t, x))) (hin : vp_in j x.1) (hv : am_aset r.2.1 t x j.toNatClampNeg v = some y)
    (k : am_W D cl cA sb base p l e R s m args below meth c nL Q r.2.2.1 lo st (h.set a (.inl (t, y))) rc rs) : am_W D cl cA sb base p l e R s m args below meth c nL Q r.1 lo (v :: .int j :: .ref a :: st) h rc rs := by
  obtain ⟨pc, i, nx, tg, kv⟩ := r
  obtain ⟨hd, hn, hk⟩ := hr
  dsimp only at hd hn hv k ⊢
  subst hn
  intro H locs cells slots ls hR hS h1 h2 hl
  have hA := hR.2.2.2 a _ ha
  have a0 : t ≠ 99 → a ≠ 0 := by
    rintro ht rfl
    obtain ⟨x, hx⟩ := hR.2.2.1
    rw [hx] at ha
    cases ha
    exact ht rfl
  have aB : t ≠ 99 → base ≤ am_ad sb base a := by
    intro ht
    obtain ⟨j, rfl⟩ : ∃ j, a = j + 1 := ⟨a - 1, by have := a0 ht; omega⟩
    exact am_ad_ge
  have K := fun H1 l1 q1 q2 => k H1 l1 cells slots ls q1 q2 h1 h2 hl
  clear k
  unfold am_aset at hv
  split at hv
  · rename_i n f w
    cases hv
    refine W.iast hx hb (am_at_i hA (by decide)) ((hK.2.1 0 .int rfl rfl).1 n (fun j => .int (f j))) (fun q => by cases q) (by rw [arrV_size]; exact hin) rfl rfl hd fun H1 e z oq => ?_
    refine K H1 _ (hR.set ha z oq (a0 (by decide)) (am_mk_i (by decide) ?_)) (hS.put z oq (aB (by decide)))
    rw [e]
    rw [arrV_store]
    congr 2
    funext q
    by_cases hq : q = j.toNatClampNeg
    · subst hq
      simp [updV, upd]
    · simp [updV, upd, hq]
  · rename_i n f w
    cases ef0 : (am_fit 1 (.int w) && am_on 1) <;> rw [ef0] at hv <;> simp only [cond_true, cond_false] at hv
    · cases hv
    simp only [Bool.and_eq_true] at ef0
    obtain ⟨ef, ho⟩ := ef0
    cases hv
    refine W.zast hx hb (am_at_i hA (by decide)) ((hK.2.1 1 .boolean rfl ho).1 n (fun j => .int (f j))) (fun q => by cases q) (by rw [arrV_size]; exact hin) rfl rfl hd fun H1 e z oq => ?_
    refine K H1 _ (hR.set ha z oq (a0 (by decide)) (am_mk_i (by decide) ?_)) (hS.put z oq (aB (by decide)))
    rw [e]
    rw [arrV_store]
    congr 2
    funext q
    by_cases hq : q = j.toNatClampNeg
    · subst hq
      have := (am_fit_ok (sb := sb) (base := base) (kd := 1) (ty := .boolean) rfl ef).1
      simp only [am_cv] at this
      simp [updV, upd, this]
    · simp [updV, upd, hq]
  · rename_i n f w
    cases ho : am_on 2 <;> rw [ho] at hv <;> simp only [cond_true, cond_false] at hv
    · cases hv
    cases hv
    refine W.last hx hb (am_at_l hA (by decide)) ((hK.2.1 2 .long rfl ho).1 n (fun j => .long (f j))) (fun q => by cases q) (by rw [arrV_size]; exact hin) rfl rfl hd fun H1 e z oq => ?_
    refine K H1 _ (hR.set ha z oq (a0 (by decide)) (am_mk_l (by decide) ?_)) (hS.put z oq (aB (by decide)))
    rw [e]
    rw [arrV_store]
    congr 2
    funext q
    by_cases hq : q = j.toNatClampNeg
    · subst hq
      simp [updV, vp_updL]
    · simp [updV, vp_updL, hq]
  · rename_i n f w
    cases ho : am_on 3 <;> rw [ho] at hv <;> simp only [cond_true, cond_false] at hv
    · cases hv
    cases hv
    refine W.dast hx hb (am_at_d hA (by decide)) ((hK.2.1 3 .double rfl ho).1 n (fun j => .double (f j))) (fun q => by cases q) (by rw [arrV_size]; exact hin) rfl rfl hd fun H1 e z oq => ?_
    refine K H1 _ (hR.set ha z oq (a0 (by decide)) (am_mk_d (by decide) ?_)) (hS.put z oq (aB (by decide)))
    rw [e]
    rw [arrV_store]
    congr 2
    funext q
    by_cases hq : q = j.toNatClampNeg
    · subst hq
      simp [updV, vf_upd]
    · simp [updV, vf_upd, hq]
  · cases hv
theorem am_alen_ok (hx : p.tables.exec = Jvm.exec) (hb : c.code = cc) (hK : am_K D cl cA am_tys s) (hr : am_okRow own cc big r) {a t : Nat} {x : vp_A} (hi : r.2.1 = .arraylength) (ha : h[a]? = some (.inl (t, x))) (ht : (t < 6 ∧ am_on t = true) ∨ t = 99)
    (k : am_W D cl cA sb base p l e R s m args below meth c nL Q r.2.2.1 lo (.int (nI x.1) :: st) h rc rs) : am_W D cl cA sb base p l e R s m args below meth c nL Q r.1 lo (.ref a :: st) h rc rs := by
  obtain ⟨pc, i, nx, tg, kv⟩ := r
  obtain ⟨hd, hn, hk⟩ := hr
  dsimp only at hd hn hi k ⊢
  subst hi hn
  intro H locs cells slots ls hR hS h1 h2 hl
  have K := k H locs cells slots ls hR hS h1 h2 hl
  have hA := hR.2.2.2 a _ ha
  by_cases e : t = 99
  · obtain ⟨scr, g1, g2, g3, g4, -⟩ := hA.1 e
    exact W.alen hx hb g1 g2 (n := nI x.1) (by rw [g4]; rfl) rfl rfl hd K
  · obtain ⟨ht6, ho⟩ : t < 6 ∧ am_on t = true := ht.resolve_right e
    have hA := (hA.2 e).resolve_left fun z => by omega
    obtain ⟨ty, hty⟩ : ∃ ty, am_tys[t]? = some ty := ⟨am_tys[t]'ht6, List.getElem?_eq_getElem ht6⟩
    obtain ⟨n, f | f | f | f | f⟩ := x
    · exact W.alen (n := nI n) hx hb hA ((hK.2.1 t _ hty ho).1 n (fun j => .int (f j))) (by show (arrV _ _ _).slots.size.toInt32 = _; rw [arrV_size]; rfl) rfl rfl hd K
    · exact W.alen (n := nI n) hx hb hA ((hK.2.1 t _ hty ho).1 n (fun j => .long (f j))) (by show (arrV _ _ _).slots.size.toInt32 = _; rw [arrV_size]; rfl) rfl rfl hd K
    · exact W.alen (n := nI n) hx hb hA ((hK.2.1 t _ hty ho).1 n (fun j => .float (f j))) (by show (arrV _ _ _).slots.size.toInt32 = _; rw [arrV_size]; rfl) rfl rfl hd K
    · exact W.alen (n := nI n) hx hb hA ((hK.2.1 t _ hty ho).1 n (fun j => .double (f j))) (by show (arrV _ _ _).slots.size.toInt32 = _; rw [arrV_size]; rfl) rfl rfl hd K
    · exact W.alen (n := nI n) hx hb hA ((hK.2.1 t _ hty ho).1 n (fun j => va_rf ((f j).map (am_ad sb base)))) (by show (arrV _ _ _).slots.size.toInt32 = _; rw [arrV_size]; rfl) rfl rfl hd K
end AMH
end
section
/-! THE PLAIN MACHINE: a method's tables, its rules, its contract. -/
abbrev am_M : Type := MethodName × ByteArray × Nat × Option FieldType
/-- 'new': pool index, class, the fields at first -/
abbrev am_NR : Type := Nat × Nat × List Value
/-- a call: pool index, kind (0 virtual, 1 static, 2 special, 3 4 5 the same of a nest mate), the receiver's class, how many parameters, the method -/
abbrev am_MR : Type := Nat × Nat × Nat × Nat × am_M
def am_okN (own : String) (cl : List vw_C) (big : List Jvm.Cond) (q : am_NR) : Prop :=
  ∃ (C : String) (T : u_T) (N : Nat), cl[q.2.1]? = some (C, T, N) ∧ am_okC big (C, T, N) ∧ Jvm.Cond.classLink own q.1 C ∈ big ∧ Jvm.Cond.instantiable C N ∈ big ∧ Jvm.Cond.initialized C ∈ big ∧
    (∀ k, k < N → (parseFieldDescriptor (T k).2.2.1).map defaultValue = q.2.2[k]?) ∧ q.2.2.length = N ∧ q.2.2.all (fun v => !(am_isk 1 v) || v == .null) = true
def am_okM (own : String) (cl : List vw_C) (big : List Jvm.Cond) (q : am_MR) : Prop :=
  Jvm.Cond.code q.2.2.2.2.1 q.2.2.2.2.2.1 q.2.2.2.2.2.2.1 q.2.2.2.2.2.2.2 ∈ big ∧
  (q.2.2.2.2.1.cls ≠ "java/lang/invoke/MethodHandle" ∧ q.2.2.2.2.1.cls ≠ "java/lang/invoke/VarHandle" ∧ (parseMethodDescriptor q.2.2.2.2.1.desc).map (fun d => d.parameters.length) = some q.2.2.2.1) ∧
  Jvm.Cond.initialized q.2.2.2.2.1.cls ∈ big ∧
  match q.2.1 with
  | 0 => Jvm.Cond.methodLink own q.1 q.2.2.2.2.1 ∈ big ∧ Jvm.Cond.instanceMethod q.2.2.2.2.1 ∈ big ∧ Jvm.Cond.selects q.2.2.2.2.1.cls q.2.2.2.2.1 q.2.2.2.2.1 ∈ big ∧ (cl[q.2.2.1]?).map (·.1) = some q.2.2.2.2.1.cls
  | 1 => Jvm.Cond.methodLink own q.1 q.2.2.2.2.1 ∈ big ∧ Jvm.Cond.static q.2.2.2.2.1 ∈ big
  | 2 => Jvm.Cond.methodLink own q.1 q.2.2.2.2.1 ∈ big ∧ Jvm.Cond.instanceMethod q.2.2.2.2.1 ∈ big ∧ q.2.2.2.2.1.name = "<init>" ∧ q.2.2.2.2.2.2.2 = none
  | 4 => ∃ host, (own, q.1, q.2.2.2.2.1, host) ∈ am_nst ∧ Jvm.Cond.static q.2.2.2.2.1 ∈ big
  | 5 => ∃ host, (own, q.1, q.2.2.2.2.1, host) ∈ am_nst ∧ Jvm.Cond.instanceMethod q.2.2.2.2.1 ∈ big ∧ q.2.2.2.2.1.name = "<init>" ∧ q.2.2.2.2.2.2.2 = none
  | _ => False
/-- the classes, the words, a class' tables (fields, new, calls), a method and its rows -/
abbrev am_E : Type := (List vw_C × List Jvm.Cond) × (List am_FR × List am_NR × List am_MR) × am_M × List am_Row
def am_okT (cl : List vw_C) (big : List Jvm.Cond) (own : String) (t : List am_FR × List am_NR × List am_MR) : Prop :=
  (∀ q ∈ t.1, am_okF own cl big q) ∧ (∀ q ∈ t.2.1, am_okN own cl big q) ∧ (∀ q ∈ t.2.2, am_okM own cl big q)
def am_okE (E : am_E) : Prop :=
  (∀ w ∈ E.1.2, goodWord w = true) ∧ am_okT E.1.1 E.1.2 E.2.2.1.1.cls E.2.1 ∧ (∀ r ∈ E.2.2.2, am_okRow E.2.2.1.1.cls E.2.2.1.2.1 E.1.2 r)
def am_Cx (E : am_E) (D : va_G) (cA : Nat → ClassId) (p : Program) (s : State) (m : MethodId) (args : Array Value) (meth : Method) (c : Code) : Prop :=
  p.tables.exec = Jvm.exec ∧ c.code = E.2.2.1.2.1 ∧ c.maxLocals = E.2.2.1.2.2.1 ∧ meth.sig.returnType = E.2.2.1.2.2.2 ∧ s.vm.findClass E.2.2.1.1.cls = some m.cls ∧ (∀ w ∈ E.1.2, w.before args s = true) ∧ am_K D E.1.1 cA am_tys s ∧ meth.locks = false ∧ meth.name = E.2.2.1.1.name
/-- what is owed at the end, by the walk's places -/
abbrev am_Z : Type := Launch → Code → va_G → (Nat → ClassId) → Nat → Nat → List Frame → Array Value → State → State → Prop
/-- from here on the walk owes what Z says; rc cells of rs slots may still be made -/
def am_B (E : am_E) (R : Room) (Z : am_Z) (pc : Nat) (lo : am_L) (st : List Value) (h : am_H) (rc rs : Nat) : Prop :=
  am_okE E → ∀ (l : Launch) (D : va_G) (cA : Nat → ClassId) (sb base : Nat) (p : Program) (e : Env) (s : State) (m : MethodId) (args : Array Value) (below : List Frame) (meth : Method) (c : Code),
    am_Cx E D cA p s m args meth c → am_W D E.1.1 cA sb base p l e R s m args below meth c E.2.2.1.2.2.1 (Z l c D cA sb base below args s) pc lo st h rc rs
/-- a method's end: it answers v and leaves the cells h' -/
def am_Qc (D : va_G) (cl : List vw_C) (cA : Nat → ClassId) (sb base : Nat) (Qa : Option Value → am_H → Prop) : Array Value → State → Outcome → State → Prop := fun _ st oc t =>
  (∃ (v : Option Value) (h' : am_H), oc = .returned (v.map (am_cv sb base)) ∧ Qa v h' ∧ am_R D cl cA sb base t h' t.heap ∧ am_K D cl cA am_tys t) ∧ va_F (fun q => base ≤ q) st t
def am_rm (f dc ds : Nat) : Room := { frames := f, cells := dc, slots := ds, locals := 36 * f }
def am_ZM (E : am_E) (dc ds : Nat) (Qa : Option Value → am_H → Prop) : am_Z := fun _ _ D cA sb base below args s => MQ below (am_Qc D E.1.1 cA sb base Qa) args s dc ds (fun q => base ≤ q)
/-- THE CONTRACT: called with av at the cells h, the method ends, with Qa; dc cells of ds slots come at most; f frames lie over its own -/
def am_Ct (G : List vw_C × List Jvm.Cond) (M : am_M) (f dc ds : Nat) (av : List Value) (h : am_H) (Qa : Option Value → am_H → Prop) : Prop :=
  ∀ (l : Launch) (D : va_G) (cA : Nat → ClassId) (sb base : Nat), Met l M.1 (.code M.1 M.2.1 M.2.2.1 M.2.2.2 :: G.2) (am_rm f dc ds)
    (va_Pc (av.map (am_cv sb base)) (fun U => am_R D G.1 cA sb base U h U.heap ∧ am_K D G.1 cA am_tys U)) (am_Qc D G.1 cA sb base Qa) dc ds (fun q => base ≤ q)
theorem am_lo_mem {g : Value → Value} (hg : ∀ v, (g v).category = v.category) : ∀ (vs : List Value) (k : Nat), ∀ q ∈ am_lp g k (am_lo vs), q ∈ lv_args k (vs.map g)
  | [], _, q, h => by simp [am_lo, am_lp] at h
  | v :: t, k, q, h => by
    have hc := hg v
    show q ∈ (k, g v) :: lv_args (if (g v).category = 2 then k + 2 else k + 1) (t.map g)
    rw [hc]
    cases v <;> simp only [am_lo, am_lp, List.mem_cons] at h <;> (rcases h with h | h; exact List.mem_cons.mpr (Or.inl h); exact List.mem_cons_of_mem _ (am_lo_mem hg t _ q h))
theorem am_lo_len {g : Value → Value} (hg : ∀ v, (g v).category = v.category) : ∀ (vs : List Value), (lg_sl (vs.map g)).length = (am_lo vs).length
  | [] => rfl
  | v :: t => by
    have hc := hg v
    have ih := am_lo_len hg t
    have e : lg_sl ((v :: t).map g) = (if (g v).category = 2 then [Slot.val (g v), .second] else [.val (g v)]) ++ lg_sl (t.map g) := by simp [lg_sl]
    rw [e, hc, List.length_append, ih]
    cases v <;> simp [am_lo, Value.category] <;> omega
theorem am_lp_pad {g : Value → Value} {lo : am_L} {n : Nat} {q : Nat × Value} {k : Nat} (h : q ∈ am_lp g k (lo ++ List.replicate n none)) : q ∈ am_lp g k lo := by
  obtain ⟨h1, v, h2, h3⟩ := am_lp_mem.mp h
  refine am_lp_mem.mpr ⟨h1, v, ?_, h3⟩
  by_cases e : q.1 - k < lo.length
  · rwa [List.getElem?_append_left e] at h2
  · rw [List.getElem?_append_right (by omega), List.getElem?_replicate] at h2
    split at h2 <;> cases h2
theorem am_entry {sb base : Nat} {vs : List Value} {n : Nat} (hn : (am_lo vs).length ≤ n) :
    am_LR (am_cv sb base) ((lg_sl (vs.map (am_cv sb base)) ++ List.replicate (n - (lg_sl (vs.map (am_cv sb base))).length) Slot.unset).toArray) n (am_lo0 vs n) := by
  have hl := am_lo_len (am_cv_cat sb base) vs
  have h1 := lv_entry (vs.map (am_cv sb base)) (n := n) (by rw [hl]; exact hn)
  refine ⟨by unfold am_lo0; rw [List.length_append, List.length_replicate]; omega, h1.1, h1.2.1, fun q hq => h1.2.2 q ?_⟩
  exact am_lo_mem (am_cv_cat sb base) vs 0 q (am_lp_pad hq)
/-- a contract out of a walk of its body -/
theorem am_Ct.of {E : am_E} {f dc ds : Nat} {av : List Value} {h : am_H} {Qa : Option Value → am_H → Prop} (hE : am_okE E) (hy : plainName E.2.2.1.1.cls = true) (hn : (am_lo av).length ≤ E.2.2.1.2.2.1)
    (k : am_B E (am_rm f dc ds) (am_ZM E dc ds Qa) 0 (am_lo0 av E.2.2.1.2.2.1) [] h dc ds) : am_Ct E.1 E.2.2.1 f dc ds av h Qa := by
  intro l D cA sb base
  refine Met.ofW (cc := E.2.2.1.2.1) (maxL := E.2.2.1.2.2.1) (ret := E.2.2.1.2.2.2) hy rfl ?_
  intro p e s m args below meth c s₁ B hml hv
  obtain ⟨rfl, hR, hK⟩ := hv
  have hts := atoms_spec (ws := .code E.2.2.1.1 E.2.2.1.2.1 E.2.2.1.2.2.1 E.2.2.1.2.2.2 :: E.1.2) B.pre
  have hown : s.vm.findClass E.2.2.1.1.cls = some m.cls := findClass_of_methodNamed B.named
  have K := k hE l D cA sb base p e s m _ below meth c ⟨B.exec, B.bytes, hml, B.returns, hown, fun w hw => hts w (List.mem_cons_of_mem _ hw), hK, B.notSynchronized, (name_of_methodNamed B.named B.method).1⟩
    s.heap [] 0 0 _ hR va_S.rf (by show 0 + dc ≤ dc; omega) (by show 0 + ds ≤ ds; omega) (am_entry hn)
  rw [lg_entry_eq]
  exact K
section RULES
variable {E : am_E} {R : Room} {Z : am_Z} {pc : Nat} {lo lo' : am_L} {st st' : List Value} {h h' : am_H} {rc rs : Nat} {r : am_Row}
/-- one step that neither branches nor calls nor makes anything; heap steps as far as the cells lie open -/
def am_ffind : List am_FR → Nat → Option am_FR
  | [], _ => none
  | q :: t, i => bif Nat.beq q.1 i then some q else am_ffind t i
theorem am_ffind_ok : ∀ {t : List am_FR} {i : Nat} {q : am_FR}, am_ffind t i = some q → q ∈ t ∧ q.1 = i
  | [], _, _, h => nomatch h
  | q0 :: t, i, q, h => by
    unfold am_ffind at h
    cases e : Nat.beq q0.1 i <;> rw [e] at h <;> simp only [cond_true, cond_false] at h
    · have := am_ffind_ok h
      exact ⟨List.mem_cons_of_mem _ this.1, this.2⟩
    · cases h
      exact ⟨List.mem_cons_self, Nat.eq_of_beq_eq_true e⟩
/-- what kind an instruction is: 0 by itself, 1 a heap step, 2 a stop -/
def am_kind : Instr → Nat
  | .ifCond _ _ => 2 | .if_icmp _ _ => 2 | .if_acmp _ _ => 2 | .ifnull _ => 2 | .ifnonnull _ => 2 | .tableswitch _ _ _ _ => 2 | .lookupswitch _ _ => 2
  | .invokevirtual _ => 2 | .invokestatic _ => 2 | .invokespecial _ => 2 | .new _ => 2 | .newarray _ => 2 | .anewarray _ => 2 | .multianewarray _ _ => 2
  | .ireturn => 2 | .areturn => 2 | .lreturn => 2 | .dreturn => 2 | .return_ => 2 | .athrow => 2 | .aastore => 2 | .ddiv => 2 | .dsub => 2 | .irem => 3 | .idiv => 3
  | .getfield _ => 1 | .putfield _ => 1 | .iaload => 1 | .baload => 1 | .laload => 1 | .daload => 1 | .aaload => 1 | .iastore => 1 | .bastore => 1 | .lastore => 1 | .dastore => 1 | .arraylength => 1
  | _ => 0
def am_pure (r : am_Row) (lo : am_L) (st : List Value) : Option (Nat × am_L × List Value) := match am_push r lo with
  | some v => some (r.2.2.1, lo, v :: st)
  | none => match am_stk r.2.1 st with
    | some st' => some (r.2.2.1, lo, st')
    | none => match am_sto r.2.1 st lo with
      | some q => some (r.2.2.1, q.1, q.2)
      | none => match r.2.1 with
        | .goto _ => some (r.2.2.2.1, lo, st)
        | .iinc j _ => match r.2.2.2.2, lo[j]? with
          | .int y, some (some (.int x)) => match am_st1 lo j (.int (x + y)) with
            | some lo' => some (r.2.2.1, lo', st)
            | none => none
          | _, _ => none
        | _ => none
theorem am_B.pure {pc' : Nat} (hf : am_find E.2.2.2 pc = some r) (hp : am_pure r lo st = some (pc', lo', st')) (k : am_B E R Z pc' lo' st' h rc rs) : am_B E R Z pc lo st h rc rs := by
  intro ok l D cA sb base p e s m args below meth c C
  have K := k ok l D cA sb base p e s m args below meth c C
  obtain ⟨hm, rfl⟩ := am_find_ok hf
  have hr := ok.2.2 r hm
  obtain ⟨hx, hb, hml, hret, hown, hts, hK, hlk, hnm⟩ := C
  unfold am_pure at hp
  split at hp
  · rename_i v hv
    cases hp
    exact am_push_ok hx hb hown hts hr hv K
  · split at hp
    · rename_i s' hv
      cases hp
      exact am_stk_ok hx hb hr hv K
    · split at hp
      · rename_i q hv
        cases hp
        exact am_sto_ok hx hb hr hv K
      · split at hp
        · rename_i hi
          cases hp
          exact am_goto_ok hx hb hr hi K
        · rename_i j n hi
          split at hp
          · rename_i y x hy hj
            split at hp
            · rename_i lo1 hs
              cases hp
              exact am_iinc_ok hx hb hr hi hy hj hs K
            · cases hp
          · cases hp
        · cases hp
theorem am_B.get {a ci : Nat} {q : am_FR} {vs : List Value} {v : Value} (hf : am_find E.2.2.2 pc = some r) {i : Nat} (hi : r.2.1 = .getfield i) (hq : am_ffind E.2.1.1 i = some q) (ha : h[a]? = some (.inr (ci, vs))) (hci : ci = q.2.1) (hv : vs[q.2.2.1]? = some v)
    (k : am_B E R Z r.2.2.1 lo (v :: st) h rc rs) : am_B E R Z pc lo (.ref a :: st) h rc rs := by
  intro ok l D cA sb base p e s m args below meth c C
  have K := k ok l D cA sb base p e s m args below meth c C
  obtain ⟨hm, rfl⟩ := am_find_ok hf
  obtain ⟨hqm, rfl⟩ := am_ffind_ok hq
  obtain ⟨hx, hb, hml, hret, hown, hts, hK, hlk, hnm⟩ := C
  exact am_get_ok hx hb hown hts hK (ok.2.2 r hm) (ok.2.1.1 q hqm) hi ha hci hv K
theorem am_B.put {a ci : Nat} {q : am_FR} {vs : List Value} {v : Value} (hf : am_find E.2.2.2 pc = some r) {i : Nat} (hi : r.2.1 = .putfield i) (hq : am_ffind E.2.1.1 i = some q) (ha : h[a]? = some (.inr (ci, vs))) (hci : ci = q.2.1) (hv : q.2.2.1 < vs.length) (hfit : am_fit q.2.2.2.1 v = true)
    (hfin : q.2.2.2.2 = true → E.2.2.1.1.name = "<init>") (k : am_B E R Z r.2.2.1 lo st (h.set a (.inr (ci, vs.set q.2.2.1 v))) rc rs) : am_B E R Z pc lo (v :: .ref a :: st) h rc rs := by
  intro ok l D cA sb base p e s m args below meth c C
  have K := k ok l D cA sb base p e s m args below meth c C
  obtain ⟨hm, rfl⟩ := am_find_ok hf
  obtain ⟨hqm, rfl⟩ := am_ffind_ok hq
  obtain ⟨hx, hb, hml, hret, hown, hts, hK, hlk, hnm⟩ := C
  exact am_put_ok hx hb hown hts hK (ok.2.2 r hm) (ok.2.1.1 q hqm) hi (fun hh => hnm.trans (hfin hh)) ha hci hv hfit K
theorem am_B.ald {a t : Nat} {x : vp_A} {v : Value} {j : Int32} (hf : am_find E.2.2.2 pc = some r) (ha : h[a]? = some (.inl (t, x))) (hin : vp_in j x.1) (hv : am_aget r.2.1 t x j.toNatClampNeg = some v)
    (k : am_B E R Z r.2.2.1 lo (v :: st) h rc rs) : am_B E R Z pc lo (.int j :: .ref a :: st) h rc rs := by
  intro ok l D cA sb base p e s m args below meth c C
  have K := k ok l D cA sb base p e s m args below meth c C
  obtain ⟨hm, rfl⟩ := am_find_ok hf
  obtain ⟨hx, hb, hml, hret, hown, hts, hK, hlk, hnm⟩ := C
  exact am_ald_ok hx hb hK (ok.2.2 r hm) ha hin hv K
theorem am_B.ast {a t : Nat} {x y : vp_A} {v : Value} {j : Int32} (hf : am_find E.2.2.2 pc = some r) (ha : h[a]? = some (.inl (t, x))) (hin : vp_in j x.1) (hv : am_aset r.2.1 t x j.toNatClampNeg v = some y)
    (k : am_B E R Z r.2.2.1 lo st (h.set a (.inl (t, y))) rc rs) : am_B E R Z pc lo (v :: .int j :: .ref a :: st) h rc rs := by
  intro ok l D cA sb base p e s m args below meth c C
  have K := k ok l D cA sb base p e s m args below meth c C
  obtain ⟨hm, rfl⟩ := am_find_ok hf
  obtain ⟨hx, hb, hml, hret, hown, hts, hK, hlk, hnm⟩ := C
  exact am_ast_ok hx hb hK (ok.2.2 r hm) ha hin hv K
theorem am_B.alen {a t : Nat} {x : vp_A} (hf : am_find E.2.2.2 pc = some r) (hi : r.2.1 = .arraylength) (ha : h[a]? = some (.inl (t, x))) (ht : (t < 6 ∧ am_on t = true) ∨ t = 99)
    (k : am_B E R Z r.2.2.1 lo (.int (nI x.1) :: st) h rc rs) : am_B E R Z pc lo (.ref a :: st) h rc rs := by
  intro ok l D cA sb base p e s m args below meth c C
  have K := k ok l D cA sb base p e s m args below meth c C
  obtain ⟨hm, rfl⟩ := am_find_ok hf
  obtain ⟨hx, hb, hml, hret, hown, hts, hK, hlk, hnm⟩ := C
  exact am_alen_ok hx hb hK (ok.2.2 r hm) hi ha ht K
/-- as many steps as go by themselves; hp: heap steps too; sp: places where it stops -/
def am_in : List Nat → Nat → Bool
  | [], _ => false
  | a :: t, b => Nat.beq a b || am_in t b
def am_heap (FL : List am_FR) (r : am_Row) (st : List Value) (h : am_H) : Option (List Value × am_H) := match r.2.1, st with
  | .getfield i, .ref a :: st => match am_ffind FL i, h[a]? with
    | some q, some (.inr o) => bif Nat.beq o.1 q.2.1 then match o.2[q.2.2.1]? with
      | some v => some (v :: st, h)
      | none => none else none
    | _, _ => none
  | .putfield i, v :: .ref a :: st => match am_ffind FL i, h[a]? with
    | some q, some (.inr o) => bif Nat.beq o.1 q.2.1 && Nat.blt q.2.2.1 o.2.length && am_fit q.2.2.2.1 v && !q.2.2.2.2 then some (st, h.set a (.inr (o.1, o.2.set q.2.2.1 v))) else none
    | _, _ => none
  | .arraylength, .ref a :: st => match h[a]? with
    | some (.inl q) => bif (Nat.blt q.1 6 && am_on q.1) || Nat.beq q.1 99 then some (.int (nI q.2.1) :: st, h) else none
    | _ => none
  | _, _ => none
def am_run (FL : List am_FR) (tb : List am_Row) (hp : Bool) (sp : List Nat) : Nat → Nat → am_L → List Value → am_H → Option (Nat × am_L × List Value × am_H)
  | 0, pc, lo, st, h => some (pc, lo, st, h)
  | n + 1, pc, lo, st, h => match am_find tb pc with
    | none => some (pc, lo, st, h)
    | some r => match am_kind r.2.1 with
      | 0 => match am_pure r lo st with
        | some q => bif am_in sp q.1 then some (q.1, q.2.1, q.2.2, h) else am_run FL tb hp sp n q.1 q.2.1 q.2.2 h
        | none => none
      | 1 => bif hp then match am_heap FL r st h with
        | some q => am_run FL tb hp sp n r.2.2.1 lo q.1 q.2
        | none => some (pc, lo, st, h) else some (pc, lo, st, h)
      | _ => some (pc, lo, st, h)
theorem am_B.heap (hf : am_find E.2.2.2 pc = some r) (hp : am_heap E.2.1.1 r st h = some (st', h')) (k : am_B E R Z r.2.2.1 lo st' h' rc rs) : am_B E R Z pc lo st h rc rs := by
  unfold am_heap at hp
  split at hp
  · rename_i i a st hi
    split at hp
    · rename_i q o hq ho
      cases e : Nat.beq o.1 q.2.1 <;> rw [e] at hp <;> simp only [cond_true, cond_false] at hp
      · cases hp
      · split at hp
        · rename_i v hv
          cases hp
          exact am_B.get hf hi hq ho (Nat.eq_of_beq_eq_true e) hv k
        · cases hp
    · cases hp
  · rename_i i v a st hi
    split at hp
    · rename_i q o hq ho
      cases e : (Nat.beq o.1 q.2.1 && Nat.blt q.2.2.1 o.2.length && am_fit q.2.2.2.1 v && !q.2.2.2.2) <;> rw [e] at hp <;> simp only [cond_true, cond_false] at hp
      · cases hp
      · cases hp
        simp only [Bool.and_eq_true, Bool.not_eq_true'] at e
        obtain ⟨⟨⟨e1, e2⟩, e3⟩, e4⟩ := e
        exact am_B.put hf hi hq ho (Nat.eq_of_beq_eq_true e1) (Nat.le_of_ble_eq_true e2) e3 (fun hh => by rw [e4] at hh; cases hh) k
    · cases hp
  · rename_i a st hi
    split at hp
    · rename_i q ho
      cases e : ((Nat.blt q.1 6 && am_on q.1) || Nat.beq q.1 99) <;> rw [e] at hp <;> simp only [cond_true, cond_false] at hp
      · cases hp
      · cases hp
        refine am_B.alen hf hi ho ?_ k
        rcases Bool.or_eq_true_iff.mp e with e | e
        · simp only [Bool.and_eq_true] at e
          exact Or.inl ⟨Nat.le_of_ble_eq_true e.1, e.2⟩
        · exact Or.inr (Nat.eq_of_beq_eq_true e)
    · cases hp
  · cases hp
theorem am_B.run {hp : Bool} {sp : List Nat} : ∀ (n : Nat) {pc pc' : Nat} {lo lo' : am_L} {st st' : List Value} {h h' : am_H}, am_run E.2.1.1 E.2.2.2 hp sp n pc lo st h = some (pc', lo', st', h') → am_B E R Z pc' lo' st' h' rc rs → am_B E R Z pc lo st h rc rs
  | 0, _, _, _, _, _, _, _, _, hr, k => by
    simp only [am_run, Option.some.injEq, Prod.mk.injEq] at hr
    obtain ⟨rfl, rfl, rfl, rfl⟩ := hr
    exact k
  | n + 1, pc, pc', lo, lo', st, st', h, h', hr, k => by
    unfold am_run at hr
    split at hr
    · simp only [Option.some.injEq, Prod.mk.injEq] at hr
      obtain ⟨rfl, rfl, rfl, rfl⟩ := hr
      exact k
    · rename_i r hf
      split at hr
      · split at hr
        · rename_i q hq
          refine am_B.pure hf hq ?_
          cases e : am_in sp q.1 <;> rw [e] at hr <;> simp only [cond_true, cond_false] at hr
          · exact am_B.run n hr k
          · simp only [Option.some.injEq, Prod.mk.injEq] at hr
            obtain ⟨rfl, rfl, rfl, rfl⟩ := hr
            exact k
        · cases hr
      · cases hp <;> simp only [cond_true, cond_false] at hr
        · simp only [Option.some.injEq, Prod.mk.injEq] at hr
          obtain ⟨rfl, rfl, rfl, rfl⟩ := hr
          exact k
        · split at hr
          · rename_i q hq
            exact am_B.heap hf hq (am_B.run n hr k)
          · simp only [Option.some.injEq, Prod.mk.injEq] at hr
            obtain ⟨rfl, rfl, rfl, rfl⟩ := hr
            exact k
      · simp only [Option.some.injEq, Prod.mk.injEq] at hr
        obtain ⟨rfl, rfl, rfl, rfl⟩ := hr
        exact k
theorem am_B.if_eq {x : Int32} {off : Int} (hf : am_find E.2.2.2 pc = some r) (hi : r.2.1 = .ifCond .eq off) (kt : x = 0 → am_B E R Z r.2.2.2.1 lo st h rc rs) (kf : ¬ x = 0 → am_B E R Z r.2.2.1 lo st h rc rs) : am_B E R Z pc lo (.int x :: st) h rc rs := by
  intro ok l D cA sb base p e s m args below meth c C
  obtain ⟨hm, rfl⟩ := am_find_ok hf
  have hr := ok.2.2 r hm
  obtain ⟨pc, i, nx, tg, kv⟩ := r
  obtain ⟨hd, hn, hk⟩ := hr
  dsimp only at hd hn hi kt kf ⊢
  subst hi hn
  intro H locs cells slots ls hR hS h1 h2 hl
  exact lv_if_eq C.1 C.2.1 hd (of_decide_eq_true hk) (fun q => kt q ok l D cA sb base p e s m args below meth c C H locs cells slots ls hR hS h1 h2 hl) (fun q => kf q ok l D cA sb base p e s m args below meth c C H locs cells slots ls hR hS h1 h2 hl)
theorem am_B.icmp_eq {x y : Int32} {off : Int} (hf : am_find E.2.2.2 pc = some r) (hi : r.2.1 = .if_icmp .eq off) (kt : x = y → am_B E R Z r.2.2.2.1 lo st h rc rs) (kf : ¬ x = y → am_B E R Z r.2.2.1 lo st h rc rs) : am_B E R Z pc lo (.int y :: .int x :: st) h rc rs := by
  intro ok l D cA sb base p e s m args below meth c C
  obtain ⟨hm, rfl⟩ := am_find_ok hf
  have hr := ok.2.2 r hm
  obtain ⟨pc, i, nx, tg, kv⟩ := r
  obtain ⟨hd, hn, hk⟩ := hr
  dsimp only at hd hn hi kt kf ⊢
  subst hi hn
  intro H locs cells slots ls hR hS h1 h2 hl
  exact lv_icmp_eq C.1 C.2.1 hd (of_decide_eq_true hk) (fun q => kt q ok l D cA sb base p e s m args below meth c C H locs cells slots ls hR hS h1 h2 hl) (fun q => kf q ok l D cA sb base p e s m args below meth c C H locs cells slots ls hR hS h1 h2 hl)
theorem am_B.if_ne {x : Int32} {off : Int} (hf : am_find E.2.2.2 pc = some r) (hi : r.2.1 = .ifCond .ne off) (kt : ¬ x = 0 → am_B E R Z r.2.2.2.1 lo st h rc rs) (kf : x = 0 → am_B E R Z r.2.2.1 lo st h rc rs) : am_B E R Z pc lo (.int x :: st) h rc rs := by
  intro ok l D cA sb base p e s m args below meth c C
  obtain ⟨hm, rfl⟩ := am_find_ok hf
  have hr := ok.2.2 r hm
  obtain ⟨pc, i, nx, tg, kv⟩ := r
  obtain ⟨hd, hn, hk⟩ := hr
  dsimp only at hd hn hi kt kf ⊢
  subst hi hn
  intro H locs cells slots ls hR hS h1 h2 hl
  exact lv_if_ne C.1 C.2.1 hd (of_decide_eq_true hk) (fun q => kt q ok l D cA sb base p e s m args below meth c C H locs cells slots ls hR hS h1 h2 hl) (fun q => kf q ok l D cA sb base p e s m args below meth c C H locs cells slots ls hR hS h1 h2 hl)
theorem am_B.icmp_ne {x y : Int32} {off : Int} (hf : am_find E.2.2.2 pc = some r) (hi : r.2.1 = .if_icmp .ne off) (kt : ¬ x = y → am_B E R Z r.2.2.2.1 lo st h rc rs) (kf : x = y → am_B E R Z r.2.2.1 lo st h rc rs) : am_B E R Z pc lo (.int y :: .int x :: st) h rc rs := by
  intro ok l D cA sb base p e s m args below meth c C
  obtain ⟨hm, rfl⟩ := am_find_ok hf
  have hr := ok.2.2 r hm
  obtain ⟨pc, i, nx, tg, kv⟩ := r
  obtain ⟨hd, hn, hk⟩ := hr
  dsimp only at hd hn hi kt kf ⊢
  subst hi hn
  intro H locs cells slots ls hR hS h1 h2 hl
  exact lv_icmp_ne C.1 C.2.1 hd (of_decide_eq_true hk) (fun q => kt q ok l D cA sb base p e s m args below meth c C H locs cells slots ls hR hS h1 h2 hl) (fun q => kf q ok l D cA sb base p e s m args below meth c C H locs cells slots ls hR hS h1 h2 hl)
theorem am_B.if_lt {x : Int32} {off : Int} (hf : am_find E.2.2.2 pc = some r) (hi : r.2.1 = .ifCond .lt off) (kt : x < 0 → am_B E R Z r.2.2.2.1 lo st h rc rs) (kf : ¬ x < 0 → am_B E R Z r.2.2.1 lo st h rc rs) : am_B E R Z pc lo (.int x :: st) h rc rs := by
  intro ok l D cA sb base p e s m args below meth c C
  obtain ⟨hm, rfl⟩ := am_find_ok hf
  have hr := ok.2.2 r hm
  obtain ⟨pc, i, nx, tg, kv⟩ := r
  obtain ⟨hd, hn, hk⟩ := hr
  dsimp only at hd hn hi kt kf ⊢
  subst hi hn
  intro H locs cells slots ls hR hS h1 h2 hl
  exact lv_if_lt C.1 C.2.1 hd (of_decide_eq_true hk) (fun q => kt q ok l D cA sb base p e s m args below meth c C H locs cells slots ls hR hS h1 h2 hl) (fun q => kf q ok l D cA sb base p e s m args below meth c C H locs cells slots ls hR hS h1 h2 hl)
theorem am_B.icmp_lt {x y : Int32} {off : Int} (hf : am_find E.2.2.2 pc = some r) (hi : r.2.1 = .if_icmp .lt off) (kt : x < y → am_B E R Z r.2.2.2.1 lo st h rc rs) (kf : ¬ x < y → am_B E R Z r.2.2.1 lo st h rc rs) : am_B E R Z pc lo (.int y :: .int x :: st) h rc rs := by
  intro ok l D cA sb base p e s m args below meth c C
  obtain ⟨hm, rfl⟩ := am_find_ok hf
  have hr := ok.2.2 r hm
  obtain ⟨pc, i, nx, tg, kv⟩ := r
  obtain ⟨hd, hn, hk⟩ := hr
  dsimp only at hd hn hi kt kf ⊢
  subst hi hn
  intro H locs cells slots ls hR hS h1 h2 hl
  exact lv_icmp_lt C.1 C.2.1 hd (of_decide_eq_true hk) (fun q => kt q ok l D cA sb base p e s m args below meth c C H locs cells slots ls hR hS h1 h2 hl) (fun q => kf q ok l D cA sb base p e s m args below meth c C H locs cells slots ls hR hS h1 h2 hl)
theorem am_B.if_ge {x : Int32} {off : Int} (hf : am_find E.2.2.2 pc = some r) (hi : r.2.1 = .ifCond .ge off) (kt : 0 ≤ x → am_B E R Z r.2.2.2.1 lo st h rc rs) (kf : ¬ 0 ≤ x → am_B E R Z r.2.2.1 lo st h rc rs) : am_B E R Z pc lo (.int x :: st) h rc rs := by
  intro ok l D cA sb base p e s m args below meth c C
  obtain ⟨hm, rfl⟩ := am_find_ok hf
  have hr := ok.2.2 r hm
  obtain ⟨pc, i, nx, tg, kv⟩ := r
  obtain ⟨hd, hn, hk⟩ := hr
  dsimp only at hd hn hi kt kf ⊢
  subst hi hn
  intro H locs cells slots ls hR hS h1 h2 hl
  exact lv_if_ge C.1 C.2.1 hd (of_decide_eq_true hk) (fun q => kt q ok l D cA sb base p e s m args below meth c C H locs cells slots ls hR hS h1 h2 hl) (fun q => kf q ok l D cA sb base p e s m args below meth c C H locs cells slots ls hR hS h1 h2 hl)
theorem am_B.icmp_ge {x y : Int32} {off : Int} (hf : am_find E.2.2.2 pc = some r) (hi : r.2.1 = .if_icmp .ge off) (kt : y ≤ x → am_B E R Z r.2.2.2.1 lo st h rc rs) (kf : ¬ y ≤ x → am_B E R Z r.2.2.1 lo st h rc rs) : am_B E R Z pc lo (.int y :: .int x :: st) h rc rs := by
  intro ok l D cA sb base p e s m args below meth c C
  obtain ⟨hm, rfl⟩ := am_find_ok hf
  have hr := ok.2.2 r hm
  obtain ⟨pc, i, nx, tg, kv⟩ := r
  obtain ⟨hd, hn, hk⟩ := hr
  dsimp only at hd hn hi kt kf ⊢
  subst hi hn
  intro H locs cells slots ls hR hS h1 h2 hl
  exact lv_icmp_ge C.1 C.2.1 hd (of_decide_eq_true hk) (fun q => kt q ok l D cA sb base p e s m args below meth c C H locs cells slots ls hR hS h1 h2 hl) (fun q => kf q ok l D cA sb base p e s m args below meth c C H locs cells slots ls hR hS h1 h2 hl)
theorem am_B.if_gt {x : Int32} {off : Int} (hf : am_find E.2.2.2 pc = some r) (hi : r.2.1 = .ifCond .gt off) (kt : 0 < x → am_B E R Z r.2.2.2.1 lo st h rc rs) (kf : ¬ 0 < x → am_B E R Z r.2.2.1 lo st h rc rs) : am_B E R Z pc lo (.int x :: st) h rc rs := by
  intro ok l D cA sb base p e s m args below meth c C
  obtain ⟨hm, rfl⟩ := am_find_ok hf
  have hr := ok.2.2 r hm
  obtain ⟨pc, i, nx, tg, kv⟩ := r
  obtain ⟨hd, hn, hk⟩ := hr
  dsimp only at hd hn hi kt kf ⊢
  subst hi hn
  intro H locs cells slots ls hR hS h1 h2 hl
  exact lv_if_gt C.1 C.2.1 hd (of_decide_eq_true hk) (fun q => kt q ok l D cA sb base p e s m args below meth c C H locs cells slots ls hR hS h1 h2 hl) (fun q => kf q ok l D cA sb base p e s m args below meth c C H locs cells slots ls hR hS h1 h2 hl)
theorem am_B.icmp_gt {x y : Int32} {off : Int} (hf : am_find E.2.2.2 pc = some r) (hi : r.2.1 = .if_icmp .gt off) (kt : y < x → am_B E R Z r.2.2.2.1 lo st h rc rs) (kf : ¬ y < x → am_B E R Z r.2.2.1 lo st h rc rs) : am_B E R Z pc lo (.int y :: .int x :: st) h rc rs := by
  intro ok l D cA sb base p e s m args below meth c C
  obtain ⟨hm, rfl⟩ := am_find_ok hf
  have hr := ok.2.2 r hm
  obtain ⟨pc, i, nx, tg, kv⟩ := r
  obtain ⟨hd, hn, hk⟩ := hr
  dsimp only at hd hn hi kt kf ⊢
  subst hi hn
  intro H locs cells slots ls hR hS h1 h2 hl
  exact lv_icmp_gt C.1 C.2.1 hd (of_decide_eq_true hk) (fun q => kt q ok l D cA sb base p e s m args below meth c C H locs cells slots ls hR hS h1 h2 hl) (fun q => kf q ok l D cA sb base p e s m args below meth c C H locs cells slots ls hR hS h1 h2 hl)
theorem am_B.if_le {x : Int32} {off : Int} (hf : am_find E.2.2.2 pc = some r) (hi : r.2.1 = .ifCond .le off) (kt : x ≤ 0 → am_B E R Z r.2.2.2.1 lo st h rc rs) (kf : ¬ x ≤ 0 → am_B E R Z r.2.2.1 lo st h rc rs) : am_B E R Z pc lo (.int x :: st) h rc rs := by
  intro ok l D cA sb base p e s m args below meth c C
  obtain ⟨hm, rfl⟩ := am_find_ok hf
  have hr := ok.2.2 r hm
  obtain ⟨pc, i, nx, tg, kv⟩ := r
  obtain ⟨hd, hn, hk⟩ := hr
  dsimp only at hd hn hi kt kf ⊢
  subst hi hn
  intro H locs cells slots ls hR hS h1 h2 hl
  exact lv_if_le C.1 C.2.1 hd (of_decide_eq_true hk) (fun q => kt q ok l D cA sb base p e s m args below meth c C H locs cells slots ls hR hS h1 h2 hl) (fun q => kf q ok l D cA sb base p e s m args below meth c C H locs cells slots ls hR hS h1 h2 hl)
theorem am_B.icmp_le {x y : Int32} {off : Int} (hf : am_find E.2.2.2 pc = some r) (hi : r.2.1 = .if_icmp .le off) (kt : x ≤ y → am_B E R Z r.2.2.2.1 lo st h rc rs) (kf : ¬ x ≤ y → am_B E R Z r.2.2.1 lo st h rc rs) : am_B E R Z pc lo (.int y :: .int x :: st) h rc rs := by
  intro ok l D cA sb base p e s m args below meth c C
  obtain ⟨hm, rfl⟩ := am_find_ok hf
  have hr := ok.2.2 r hm
  obtain ⟨pc, i, nx, tg, kv⟩ := r
  obtain ⟨hd, hn, hk⟩ := hr
  dsimp only at hd hn hi kt kf ⊢
  subst hi hn
  intro H locs cells slots ls hR hS h1 h2 hl
  exact lv_icmp_le C.1 C.2.1 hd (of_decide_eq_true hk) (fun q => kt q ok l D cA sb base p e s m args below meth c C H locs cells slots ls hR hS h1 h2 hl) (fun q => kf q ok l D cA sb base p e s m args below meth c C H locs cells slots ls hR hS h1 h2 hl)
end RULES
end
section
/-! THE PLAIN MACHINE: calls, what is made, ends. -/
def am_fits (R : Room) (f maxL : Nat) : Bool := Nat.ble (f + 1) R.frames && Nat.ble (8 + (maxL + 11) + 36 * f) R.locals
def am_wd (st : List Value) : Nat := (st.map fun v => v.category).sum
theorem am_wd_cv (sb base : Nat) : ∀ st : List Value, ((st.map (am_cv sb base)).map fun v => v.category).sum = am_wd st
  | [] => rfl
  | v :: t => by
    simp only [List.map_cons, List.sum_cons, am_wd, am_cv_cat]
    have := am_wd_cv sb base t
    unfold am_wd at this
    rw [this]
def am_mfind : List am_MR → Nat → Option am_MR
  | [], _ => none
  | q :: t, i => bif Nat.beq q.1 i then some q else am_mfind t i
theorem am_mfind_ok : ∀ {t : List am_MR} {i : Nat} {q : am_MR}, am_mfind t i = some q → q ∈ t ∧ q.1 = i
  | [], _, _, h => nomatch h
  | q0 :: t, i, q, h => by
    unfold am_mfind at h
    cases e : Nat.beq q0.1 i <;> rw [e] at h <;> simp only [cond_true, cond_false] at h
    · have := am_mfind_ok h
      exact ⟨List.mem_cons_of_mem _ this.1, this.2⟩
    · cases h
      exact ⟨List.mem_cons_self, Nat.eq_of_beq_eq_true e⟩
def am_nfind : List am_NR → Nat → Option am_NR
  | [], _ => none
  | q :: t, i => bif Nat.beq q.1 i then some q else am_nfind t i
theorem am_nfind_ok : ∀ {t : List am_NR} {i : Nat} {q : am_NR}, am_nfind t i = some q → q ∈ t ∧ q.1 = i
  | [], _, _, h => nomatch h
  | q0 :: t, i, q, h => by
    unfold am_nfind at h
    cases e : Nat.beq q0.1 i <;> rw [e] at h <;> simp only [cond_true, cond_false] at h
    · have := am_nfind_ok h
      exact ⟨List.mem_cons_of_mem _ this.1, this.2⟩
    · cases h
      exact ⟨List.mem_cons_self, Nat.eq_of_beq_eq_true e⟩
theorem am_blind {D : va_G} {cl : List vw_C} {cA : Nat → ClassId} {sb base : Nat} {h : am_H} {av : List Value} : FrameBlind (va_Pc av (fun U => am_R D cl cA sb base U h U.heap ∧ am_K D cl cA am_tys U)) :=
  fun a U g mk q => ⟨q.1, am_R.moved (u := U) (U := U.calling g mk a) (Vm.Alike.refl U.vm) q.2.1, am_K.moved (u := U) (U := U.calling g mk a) (State.WarmedH.refl U) q.2.2⟩
section AMC
variable {D : va_G} {cl : List vw_C} {cA : Nat → ClassId} {sb base : Nat} {p : Program} {l : Launch} {e : Env} {R : Room} {s : State} {m : MethodId} {args : Array Value} {below : List Frame} {meth : Method} {c : Code} {Q : State → Prop}
/-- behind a call -/
theorem am_back {H : Heap} {locs : List Loc} {cells slots mc ms pc : Nat} {ls : Array Slot} {st0 rest : List Value} {a : Array Value} {Qa : Option Value → am_H → Prop}
    (hr : va_Run p l e R s m args below meth c H locs cells slots mc ms (F0 m pc ls st0) (rest.map (am_cv sb base)) (am_Qc D cl cA sb base Qa a) (fun q => base ≤ q)) (hS : va_S (fun q => base ≤ q) s.heap H locs)
    (kk : ∀ (v : Option Value) (h' : am_H) (H1 : Heap) (locs1 : List Loc), Qa v h' → am_R D cl cA sb base s h' H1 → va_S (fun q => base ≤ q) s.heap H1 locs1 → W p l e R s m args below meth c H1 locs1 (cells + mc) (slots + ms) Q (F0 m (pc + 3) ls ((v.toList ++ rest).map (am_cv sb base)))) :
    W p l e R s m args below meth c H locs cells slots Q (F0 m pc ls st0) := by
  intro T hT X
  obtain ⟨v, st₀, t, T', L, h0, X', hL, e1, e2, ⟨⟨v', h', ev, hQ, hR, hK⟩, hz, hk⟩, st⟩ := hr T hT X
  cases ev
  rw [h0] at hz hk
  have hal : t.vm.Alike s.vm := by rw [← e2]; exact X'.warmed.alike.symm
  obtain ⟨t2, a1, b1⟩ := kk v' h' T'.heap (locs ++ L) hQ (by rw [e1]; exact hR.moved hal)
    ⟨Nat.le_trans hS.1 (by rw [e1]; exact hz), fun q h1 h2 => by rw [e1, hk q (Nat.lt_of_lt_of_le h1 hS.1) h2]; exact hS.2.1 q h1 h2, fun q hq => by
      rcases List.mem_append.mp hq with h | h
      · exact hS.2.2 q h
      · exact hL q h⟩ T' rfl X'
  refine ⟨t2, st t2 ?_, b1⟩
  have e5 : (v'.map (am_cv sb base)).toList ++ rest.map (am_cv sb base) = (v'.toList ++ rest).map (am_cv sb base) := by cases v' <;> rfl
  rw [e5]
  exact a1
end AMC
section CALLS
variable {E : am_E} {R : Room} {Z : am_Z} {pc : Nat} {lo lo' : am_L} {st rest : List Value} {h : am_H} {rc rs : Nat} {r : am_Row}
theorem am_good {G : List vw_C × List Jvm.Cond} {y : MethodName} {cc : ByteArray} {maxL : Nat} {ret : Option FieldType} (hg : ∀ w ∈ G.2, goodWord w = true) (hc : Jvm.Cond.code y cc maxL ret ∈ G.2) : GoodIn G.2 (.code y cc maxL ret :: G.2) := by
  intro w hw
  rcases List.mem_cons.mp hw with rfl | hw
  · exact ⟨hc, good_of_word (hg _ hc)⟩
  · exact ⟨hw, good_of_word (hg _ hw)⟩
theorem am_fits_ok {R : Room} {f maxL : Nat} (h : am_fits R f maxL = true) : f + 1 ≤ R.frames ∧ 8 + (maxL + 11) + 36 * f ≤ R.locals := by
  simp only [am_fits, Bool.and_eq_true] at h
  exact ⟨Nat.le_of_ble_eq_true h.1, Nat.le_of_ble_eq_true h.2⟩
/-- a method of an object -/
theorem am_B.callV {i ci n f dc ds a : Nat} {M : am_M} {as : List Value} {vs : List Value} {Qa : Option Value → am_H → Prop} (hf : am_find E.2.2.2 pc = some r) (hi : r.2.1 = .invokevirtual i) (hm : am_mfind E.2.1.2.2 i = some (i, 0, ci, n, M)) (hc : am_Ct E.1 M f dc ds (.ref a :: as) h Qa)
    (hst : st = as.reverse ++ .ref a :: rest) (hn : as.length = n) (hw : am_wd rest ≤ 8) (hfit : am_fits R f M.2.2.1 = true) (ha : h[a]? = some (.inr (ci, vs))) {rc0 rs0 : Nat} (hrc : rc + dc = rc0) (hrs : rs + ds = rs0) (k : ∀ v h', Qa v h' → am_B E R Z (pc + 3) lo (v.toList ++ rest) h' rc rs) : am_B E R Z pc lo st h rc0 rs0 := by
  subst hrc; subst hrs
  intro ok l D cA sb base p e s m args below meth c C H locs cells slots ls hR hS h1 h2 hl
  obtain ⟨hm0, rfl⟩ := am_find_ok hf
  obtain ⟨hd, -, -⟩ := ok.2.2 r hm0
  obtain ⟨hq, -⟩ := am_mfind_ok hm
  obtain ⟨hcode, hdes, hini, hlink, hinst, hsel, hcl⟩ := ok.2.1.2.2 _ hq
  dsimp only at hcode hdes hini hlink hinst hsel hcl
  have C0 := C
  obtain ⟨hx, hb, hml, hret, hown, hts, hK, hlk, hnm⟩ := C
  rw [hi] at hd
  subst hst
  have hfr := am_fits_ok hfit
  obtain ⟨q, hq1, hq2⟩ : ∃ q, E.1.1[ci]? = some q ∧ q.1 = M.1.cls := by
    cases hz : E.1.1[ci]? with
    | none => rw [hz] at hcl; cases hcl
    | some q => rw [hz] at hcl; exact ⟨q, rfl, Option.some.inj hcl⟩
  obtain ⟨r', hr', cell, g1, g2, g3, -⟩ := hR.2.2.2 a _ ha
  refine am_back (va_runV (C := M.1.cls) (As := as.map (am_cv sb base)) (rest := rest.map (am_cv sb base)) ⟨hx, hb, hml, hown, hts⟩ (hc l D cA sb base)
    ⟨callB_of n hts (am_good ok.1 hcode) rfl rfl rfl (hts _ hini) (hts _ hlink) hdes hfr, hts _ hinst, hts _ hsel⟩
    ⟨am_blind, ⟨cell, g1, by rw [g3]; rfl, by rw [g2, ← hq2]; exact (hK.1 ci q hq1).2.1⟩, fun U hU hW => ⟨rfl, by rw [hU]; exact hR.moved hW.alike, hK.moved hW⟩⟩ rfl (by rw [List.length_map]; exact hn) hl.2.1 (by simp [am_cv]) ?_ hd ⟨by omega, by omega⟩) hS
    (fun v h' H1 locs1 hQ hR1 hS1 => k v h' hQ ok l D cA sb base p e s m args below meth c C0 H1 locs1 (cells + dc) (slots + ds) ls hR1 hS1 (by omega) (by omega) hl)
  show 2 * 0 + _ ≤ 8
  rw [am_wd_cv]
  omega
/-- a static method -/
theorem am_B.callS {i ci n f dc ds : Nat} {M : am_M} {as : List Value} {Qa : Option Value → am_H → Prop} (hf : am_find E.2.2.2 pc = some r) (hi : r.2.1 = .invokestatic i) (hm : am_mfind E.2.1.2.2 i = some (i, 1, ci, n, M)) (hc : am_Ct E.1 M f dc ds as h Qa)
    (hst : st = as.reverse ++ rest) (hn : as.length = n) (hw : am_wd rest ≤ 8) (hfit : am_fits R f M.2.2.1 = true) {rc0 rs0 : Nat} (hrc : rc + dc = rc0) (hrs : rs + ds = rs0) (k : ∀ v h', Qa v h' → am_B E R Z (pc + 3) lo (v.toList ++ rest) h' rc rs) : am_B E R Z pc lo st h rc0 rs0 := by
  subst hrc; subst hrs
  intro ok l D cA sb base p e s m args below meth c C H locs cells slots ls hR hS h1 h2 hl
  obtain ⟨hm0, rfl⟩ := am_find_ok hf
  obtain ⟨hd, -, -⟩ := ok.2.2 r hm0
  obtain ⟨hq, -⟩ := am_mfind_ok hm
  obtain ⟨hcode, hdes, hini, hlink, hstt⟩ := ok.2.1.2.2 _ hq
  dsimp only at hcode hdes hini hlink hstt
  have C0 := C
  obtain ⟨hx, hb, hml, hret, hown, hts, hK, hlk, hnm⟩ := C
  rw [hi] at hd
  subst hst
  have hfr := am_fits_ok hfit
  refine am_back (va_runS (As := as.map (am_cv sb base)) (rest := rest.map (am_cv sb base)) ⟨hx, hb, hml, hown, hts⟩ (hc l D cA sb base)
    ⟨callB_of n hts (am_good ok.1 hcode) rfl rfl rfl (hts _ hini) (hts _ hlink) hdes hfr, hts _ hstt⟩
    ⟨am_blind, fun U hU hW => ⟨rfl, by rw [hU]; exact hR.moved hW.alike, hK.moved hW⟩⟩ rfl (by rw [List.length_map]; exact hn) hl.2.1 (by simp) ?_ hd ⟨by omega, by omega⟩) hS
    (fun v h' H1 locs1 hQ hR1 hS1 => k v h' hQ ok l D cA sb base p e s m args below meth c C0 H1 locs1 (cells + dc) (slots + ds) ls hR1 hS1 (by omega) (by omega) hl)
  show 2 * 0 + _ ≤ 8
  rw [am_wd_cv]
  omega
theorem am_B.callSN {i ci n f dc ds : Nat} {M : am_M} {as : List Value} {Qa : Option Value → am_H → Prop} (hf : am_find E.2.2.2 pc = some r) (hi : r.2.1 = .invokestatic i) (hm : am_mfind E.2.1.2.2 i = some (i, 4, ci, n, M)) (hc : am_Ct E.1 M f dc ds as h Qa)
    (hst : st = as.reverse ++ rest) (hn : as.length = n) (hw : am_wd rest ≤ 8) (hfit : am_fits R f M.2.2.1 = true) {rc0 rs0 : Nat} (hrc : rc + dc = rc0) (hrs : rs + ds = rs0) (k : ∀ v h', Qa v h' → am_B E R Z (pc + 3) lo (v.toList ++ rest) h' rc rs) : am_B E R Z pc lo st h rc0 rs0 := by
  subst hrc; subst hrs
  intro ok l D cA sb base p e s m args below meth c C H locs cells slots ls hR hS h1 h2 hl
  obtain ⟨hm0, rfl⟩ := am_find_ok hf
  obtain ⟨hd, -, -⟩ := ok.2.2 r hm0
  obtain ⟨hq, -⟩ := am_mfind_ok hm
  obtain ⟨hcode, hdes, hini, host, hlink, hstt⟩ := ok.2.1.2.2 _ hq
  dsimp only at hcode hdes hini hlink hstt
  have C0 := C
  obtain ⟨hx, hb, hml, hret, hown, hts, hK, hlk, hnm⟩ := C
  rw [hi] at hd
  subst hst
  have hfr := am_fits_ok hfit
  refine am_back (va_runSN (As := as.map (am_cv sb base)) (rest := rest.map (am_cv sb base)) ⟨hx, hb, hml, hown, hts⟩ (hc l D cA sb base)
    ⟨va_cnB n hts (am_good ok.1 hcode) rfl rfl rfl (hK.2.2.1 _ hlink) (hts _ hini) hdes hfr, hts _ hstt, trivial⟩
    ⟨am_blind, fun U hU hW => ⟨rfl, by rw [hU]; exact hR.moved hW.alike, hK.moved hW⟩⟩ rfl (by rw [List.length_map]; exact hn) hl.2.1 (by simp) ?_ hd ⟨by omega, by omega⟩) hS
    (fun v h' H1 locs1 hQ hR1 hS1 => k v h' hQ ok l D cA sb base p e s m args below meth c C0 H1 locs1 (cells + dc) (slots + ds) ls hR1 hS1 (by omega) (by omega) hl)
  show 2 * 0 + _ ≤ 8
  rw [am_wd_cv]
  omega
/-- a constructor -/
theorem am_B.callI {i ci n f dc ds a : Nat} {M : am_M} {as : List Value} {Qa : Option Value → am_H → Prop} (hf : am_find E.2.2.2 pc = some r) (hi : r.2.1 = .invokespecial i) (hm : am_mfind E.2.1.2.2 i = some (i, 2, ci, n, M)) (hc : am_Ct E.1 M f dc ds (.ref a :: as) h Qa)
    (hst : st = as.reverse ++ .ref a :: rest) (hn : as.length = n) (hw : am_wd rest ≤ 8) (hfit : am_fits R f M.2.2.1 = true) {rc0 rs0 : Nat} (hrc : rc + dc = rc0) (hrs : rs + ds = rs0) (k : ∀ v h', Qa v h' → am_B E R Z (pc + 3) lo (v.toList ++ rest) h' rc rs) : am_B E R Z pc lo st h rc0 rs0 := by
  subst hrc; subst hrs
  intro ok l D cA sb base p e s m args below meth c C H locs cells slots ls hR hS h1 h2 hl
  obtain ⟨hm0, rfl⟩ := am_find_ok hf
  obtain ⟨hd, -, -⟩ := ok.2.2 r hm0
  obtain ⟨hq, -⟩ := am_mfind_ok hm
  obtain ⟨hcode, hdes, hini, hlink, hinst, hy1, hy2⟩ := ok.2.1.2.2 _ hq
  obtain ⟨y, cc, maxL, ret⟩ := M
  dsimp only at hcode hdes hini hlink hinst hy1 hy2
  subst hy2
  have C0 := C
  obtain ⟨hx, hb, hml, hret, hown, hts, hK, hlk, hnm⟩ := C
  rw [hi] at hd
  subst hst
  have hfr := am_fits_ok hfit
  refine am_back (va_runI (As := as.map (am_cv sb base)) (rest := rest.map (am_cv sb base)) ⟨hx, hb, hml, hown, hts⟩ (hc l D cA sb base)
    ⟨callB_of n hts (am_good ok.1 hcode) rfl rfl rfl (hts _ hini) (hts _ hlink) hdes hfr, hy1, hts _ hinst⟩
    ⟨am_blind, fun U hU hW => ⟨rfl, by rw [hU]; exact hR.moved hW.alike, hK.moved hW⟩⟩ rfl (by rw [List.length_map]; exact hn) hl.2.1 (by simp [am_cv]) ?_ hd ⟨by omega, by omega⟩) hS
    (fun v h' H1 locs1 hQ hR1 hS1 => k v h' hQ ok l D cA sb base p e s m args below meth c C0 H1 locs1 (cells + dc) (slots + ds) ls hR1 hS1 (by omega) (by omega) hl)
  show 2 * 0 + _ ≤ 8
  rw [am_wd_cv]
  omega
theorem am_B.callIN {i ci n f dc ds a : Nat} {M : am_M} {as : List Value} {Qa : Option Value → am_H → Prop} (hf : am_find E.2.2.2 pc = some r) (hi : r.2.1 = .invokespecial i) (hm : am_mfind E.2.1.2.2 i = some (i, 5, ci, n, M)) (hc : am_Ct E.1 M f dc ds (.ref a :: as) h Qa)
    (hst : st = as.reverse ++ .ref a :: rest) (hn : as.length = n) (hw : am_wd rest ≤ 8) (hfit : am_fits R f M.2.2.1 = true) {rc0 rs0 : Nat} (hrc : rc + dc = rc0) (hrs : rs + ds = rs0) (k : ∀ v h', Qa v h' → am_B E R Z (pc + 3) lo (v.toList ++ rest) h' rc rs) : am_B E R Z pc lo st h rc0 rs0 := by
  subst hrc; subst hrs
  intro ok l D cA sb base p e s m args below meth c C H locs cells slots ls hR hS h1 h2 hl
  obtain ⟨hm0, rfl⟩ := am_find_ok hf
  obtain ⟨hd, -, -⟩ := ok.2.2 r hm0
  obtain ⟨hq, -⟩ := am_mfind_ok hm
  obtain ⟨hcode, hdes, hini, host, hlink, hinst, hy1, hy2⟩ := ok.2.1.2.2 _ hq
  obtain ⟨y, cc, maxL, ret⟩ := M
  dsimp only at hcode hdes hini hlink hinst hy1 hy2
  subst hy2
  have C0 := C
  obtain ⟨hx, hb, hml, hret, hown, hts, hK, hlk, hnm⟩ := C
  rw [hi] at hd
  subst hst
  have hfr := am_fits_ok hfit
  refine am_back (va_runIN (As := as.map (am_cv sb base)) (rest := rest.map (am_cv sb base)) ⟨hx, hb, hml, hown, hts⟩ (hc l D cA sb base)
    ⟨va_cnB n hts (am_good ok.1 hcode) rfl rfl rfl (hK.2.2.1 _ hlink) (hts _ hini) hdes hfr, hy1, hts _ hinst⟩
    ⟨am_blind, fun U hU hW => ⟨rfl, by rw [hU]; exact hR.moved hW.alike, hK.moved hW⟩⟩ rfl (by rw [List.length_map]; exact hn) hl.2.1 (by simp [am_cv]) ?_ hd ⟨by omega, by omega⟩) hS
    (fun v h' H1 locs1 hQ hR1 hS1 => k v h' hQ ok l D cA sb base p e s m args below meth c C0 H1 locs1 (cells + dc) (slots + ds) ls hR1 hS1 (by omega) (by omega) hl)
  show 2 * 0 + _ ≤ 8
  rw [am_wd_cv]
  omega
/-- Object's own constructor -/
theorem am_B.obji {i a : Nat} (hf : am_find E.2.2.2 pc = some r) (hi : r.2.1 = .invokespecial i) (hl1 : Jvm.Cond.methodLink E.2.2.1.1.cls i objectInit ∈ E.1.2) (hl2 : Jvm.Cond.instanceMethod objectInit ∈ E.1.2) (hl3 : Jvm.Cond.code objectInit ⟨#[0xb1]⟩ 1 none ∈ E.1.2) (hw : am_wd rest ≤ 8) (hR1 : (Nat.ble 1 R.frames && Nat.ble 20 R.locals) = true)
    (k : am_B E R Z (pc + 3) lo rest h rc rs) : am_B E R Z pc lo (.ref a :: rest) h rc rs := by
  intro ok l D cA sb base p e s m args below meth c C H locs cells slots ls hR hS h1 h2 hl
  have K := k ok l D cA sb base p e s m args below meth c C H locs cells slots ls hR hS h1 h2 hl
  obtain ⟨hm0, rfl⟩ := am_find_ok hf
  obtain ⟨hd, -, -⟩ := ok.2.2 r hm0
  obtain ⟨hx, hb, hml, hret, hown, hts, hK, hlk, hnm⟩ := C
  rw [hi] at hd
  simp only [Bool.and_eq_true] at hR1
  have r1 := Nat.le_of_ble_eq_true hR1.1
  have r2 := Nat.le_of_ble_eq_true hR1.2
  refine W.objInit hx hb hown (hts _ hl1) (hts _ hl2) (hts _ hl3) rfl (by rw [hml]; exact hl.2.1) rfl hd r1 ?_ K
  show 2 * 0 + _ + 12 ≤ _
  rw [am_wd_cv]
  omega
/-- a new object -/
theorem am_B.new {i : Nat} {q : am_NR} (hf : am_find E.2.2.2 pc = some r) (hi : r.2.1 = .new i) (hq : am_nfind E.2.1.2.1 i = some q) (k : am_B E R Z (pc + 3) lo (.ref h.length :: st) (h ++ [.inr (q.2.1, q.2.2)]) rc rs) : am_B E R Z pc lo st h (rc + 1) (rs + q.2.2.length) := by
  intro ok l D cA sb base p e s m args below meth c C H locs cells slots ls hR hS h1 h2 hl
  have K := fun H1 a1 a2 => k ok l D cA sb base p e s m args below meth c C H1 locs (cells + 1) (slots + q.2.2.length) ls a1 a2 (by omega) (by omega) hl
  obtain ⟨hm0, rfl⟩ := am_find_ok hf
  obtain ⟨hd, -, -⟩ := ok.2.2 r hm0
  obtain ⟨hqm, rfl⟩ := am_nfind_ok hq
  obtain ⟨C', T, N, hc, ⟨hin, hnm', ty0, hty⟩, hclk, hins, hini, hdef, hlen, hnr⟩ := ok.2.1.2.1 q hqm
  obtain ⟨hx, hb, hml, hret, hown, hts, hK, hlk, hnm⟩ := C
  rw [hi] at hd
  have hKn := hK.1 _ _ hc
  rw [hlen] at K
  refine W.newcK hx hb hown (hts _ hclk) (hts _ hins) (hts _ hini) rfl hd (by omega) (by omega) hKn.2.1 rfl fun H1 kC hkC e1 z1 o1 => ?_
  rw [← hR.next]
  refine K H1 (hR.push z1 o1 ⟨_, hc, (u_born ty0 hts hin hKn hkC e1 hty).to (fun j hj => ?_)⟩) ⟨Nat.le_trans hS.1 (by omega), fun x a1 a2 => (o1 x (Nat.lt_of_lt_of_le a1 hS.1)).trans (hS.2.1 x a1 a2), hS.2.2⟩
  have := hdef j hj
  rw [hty j hj] at this
  have h3 := this.symm
  simp only [Option.map_some] at h3
  unfold vp_V
  rw [List.getD_eq_getElem?_getD, List.getElem?_map, h3]
  have hm : defaultValue (ty0 j) ∈ q.2.2 := List.mem_of_getElem? h3
  have h4 := List.all_eq_true.mp hnr _ hm
  cases hd : defaultValue (ty0 j) <;> first | rfl | (rw [hd] at h4; exact absurd h4 (by simp [am_isk]))
/-- a new row of numbers -/
theorem am_B.newa_g {ay : ArrayType} {t n : Nat} {ty : FieldType} {x : vp_A} {j : Int32} (hf : am_find E.2.2.2 pc = some r) (hi : r.2.1 = .newarray ay) (hw : Jvm.Cond.arrayClass (newarray.typeOf ay) ∈ E.1.2) (htt : newarray.typeOf ay = ty) (ht : am_tys[t]? = some ty) (hon : am_on t = true) (ht9 : t ≠ 99)
    (hra : ∀ (U : State) (c : ClassId), va_RA U c ty → U.vm.findClass ("[" ++ ty.toString) = some c) (hz : ∀ (c : ClassId) (sb base : Nat), vp_cell c (am_cx sb base x) = arrV c n (fun _ => defaultValue ty)) (hj : j = nI n) (hn : n ≤ 60000000)
    (k : am_B E R Z (pc + 2) lo (.ref h.length :: st) (h ++ [.inl (t, x)]) rc rs) : am_B E R Z pc lo (.int j :: st) h (rc + 1) (rs + n) := by
  intro ok l D cA sb base p e s m args below meth c C H locs cells slots ls hR hS h1 h2 hl
  have K := fun H1 a1 a2 => k ok l D cA sb base p e s m args below meth c C H1 locs (cells + 1) (slots + n) ls a1 a2 (by omega) (by omega) hl
  obtain ⟨hm0, rfl⟩ := am_find_ok hf
  obtain ⟨hd, -, -⟩ := ok.2.2 r hm0
  obtain ⟨hx, hb, hml, hret, hown, hts, hK, hlk, hnm⟩ := C
  rw [hi] at hd
  have hn31 : n < 2 ^ 31 := by omega
  have hbytes : n * componentBytes (newarray.typeOf ay) ≤ 536870912 := by
    cases ay <;> simp only [newarray.typeOf, componentBytes] <;> omega
  subst hj
  refine va_newaK hx hb (hts _ hw) rfl hd rfl (nI_pos hn31) (nI_clamp hn31) hbytes (by omega) (by omega) rfl fun H1 cA' e1 z1 o1 hAr hNm => ?_
  have ecA : cA' = cA t := by
    have h3 := hra s (cA t) (hK.2.1 t ty ht hon).2
    rw [htt] at hNm
    exact Option.some.inj (hNm.symm.trans h3)
  rw [← hR.next]
  refine K H1 (hR.push z1 o1 ⟨fun q => absurd q ht9, fun _ => Or.inr ?_⟩) ⟨Nat.le_trans hS.1 (by omega), fun x a1 a2 => (o1 x (Nat.lt_of_lt_of_le a1 hS.1)).trans (hS.2.1 x a1 a2), hS.2.2⟩
  rw [e1]
  dsimp only
  rw [hz, htt, ecA]
theorem am_B.newI {n : Nat} {j : Int32} (hf : am_find E.2.2.2 pc = some r) (hi : r.2.1 = .newarray .int) (hw : Jvm.Cond.arrayClass .int ∈ E.1.2) (hj : j = nI n) (hn : n ≤ 60000000) (k : am_B E R Z (pc + 2) lo (.ref h.length :: st) (h ++ [.inl (0, n, .inl fun _ => 0)]) rc rs) : am_B E R Z pc lo (.int j :: st) h (rc + 1) (rs + n) :=
  am_B.newa_g hf hi hw rfl rfl rfl (by decide) (fun _ _ q => q) (fun _ _ _ => rfl) hj hn k
theorem am_B.newZ {n : Nat} {j : Int32} (hon : am_on 1 = true) (hf : am_find E.2.2.2 pc = some r) (hi : r.2.1 = .newarray .boolean) (hw : Jvm.Cond.arrayClass .boolean ∈ E.1.2) (hj : j = nI n) (hn : n ≤ 60000000) (k : am_B E R Z (pc + 2) lo (.ref h.length :: st) (h ++ [.inl (1, n, .inl fun _ => 0)]) rc rs) : am_B E R Z pc lo (.int j :: st) h (rc + 1) (rs + n) :=
  am_B.newa_g hf hi hw rfl rfl hon (by decide) (fun _ _ q => q) (fun _ _ _ => rfl) hj hn k
theorem am_B.newJ {n : Nat} {j : Int32} (hon : am_on 2 = true) (hf : am_find E.2.2.2 pc = some r) (hi : r.2.1 = .newarray .long) (hw : Jvm.Cond.arrayClass .long ∈ E.1.2) (hj : j = nI n) (hn : n ≤ 60000000) (k : am_B E R Z (pc + 2) lo (.ref h.length :: st) (h ++ [.inl (2, n, .inr (.inl fun _ => 0))]) rc rs) : am_B E R Z pc lo (.int j :: st) h (rc + 1) (rs + n) :=
  am_B.newa_g hf hi hw rfl rfl hon (by decide) (fun _ _ q => q) (fun _ _ _ => rfl) hj hn k
theorem am_B.newD {n : Nat} {j : Int32} (hon : am_on 3 = true) (hf : am_find E.2.2.2 pc = some r) (hi : r.2.1 = .newarray .double) (hw : Jvm.Cond.arrayClass .double ∈ E.1.2) (hj : j = nI n) (hn : n ≤ 60000000) (k : am_B E R Z (pc + 2) lo (.ref h.length :: st) (h ++ [.inl (3, n, .inr (.inr (.inr (.inl fun _ => 0))))]) rc rs) : am_B E R Z pc lo (.int j :: st) h (rc + 1) (rs + n) :=
  am_B.newa_g hf hi hw rfl rfl hon (by decide) (fun _ _ q => q) (fun _ _ _ => rfl) hj hn k
/-- new Trace[n] -/
theorem am_B.newT {i n : Nat} {j : Int32} (hf : am_find E.2.2.2 pc = some r) (hi : r.2.1 = .anewarray i) (hw1 : Jvm.Cond.classLink E.2.2.1.1.cls i "TraceAligner$Trace" ∈ E.1.2) (hj : j = nI n) (hn : n ≤ 60000000)
    (k : am_B E R Z (pc + 3) lo (.ref h.length :: st) (h ++ [.inl (4, n, .inr (.inr (.inr (.inr fun _ => none))))]) rc rs) : am_B E R Z pc lo (.int j :: st) h (rc + 1) (rs + n) := by
  intro ok l D cA sb base p e s m args below meth c C H locs cells slots ls hR hS h1 h2 hl
  have K := fun H1 a1 a2 => k ok l D cA sb base p e s m args below meth c C H1 locs (cells + 1) (slots + n) ls a1 a2 (by omega) (by omega) hl
  obtain ⟨hm0, rfl⟩ := am_find_ok hf
  obtain ⟨hd, -, -⟩ := ok.2.2 r hm0
  obtain ⟨hx, hb, hml, hret, hown, hts, hK, hlk, hnm⟩ := C
  rw [hi] at hd
  have hn31 : n < 2 ^ 31 := by omega
  subst hj
  have hcl := nI_clamp hn31
  refine W.anew hx hb hown (hts _ hw1) (va_AO.use hK.2.2.2.1) rfl hd rfl (nI_pos hn31) (by rw [hcl]; omega) (by omega) (by rw [hcl]; omega) fun cA' kA comp f1 f2 f3 f4 => ?_
  rw [hcl]
  generalize hH1 : H.push ({ cls := cA', slots := Array.replicate n .null, vm := .none } : Cell) = H1
  have z1 : H1.size = H.size + 1 := by rw [← hH1, Array.size_push]
  have e1 : H1[H.size]? = some (arrV cA' n (fun _ => .null)) := by rw [← hH1, Array.getElem?_push_size, ← arrV_new]
  have o1 : ∀ q : Nat, q < H.size → H1[q]? = H[q]? := fun q hq => by rw [← hH1, Array.getElem?_push, if_neg (Nat.ne_of_lt hq)]
  have ecA : cA' = cA 4 := by
    obtain ⟨kA', comp', g1, g2, g3, g4⟩ := (hK.2.1 4 _ rfl rfl).2
    exact Option.some.inj (f1.symm.trans g4)
  rw [← hR.next]
  refine K H1 (hR.push z1 o1 (am_mk_q (by decide) ?_)) ⟨Nat.le_trans hS.1 (by omega), fun x a1 a2 => (o1 x (Nat.lt_of_lt_of_le a1 hS.1)).trans (hS.2.1 x a1 a2), hS.2.2⟩
  rw [e1, ecA]
  rfl
/-- an object into a row of its class -/
theorem am_B.aast {a b n ci : Nat} {f : Nat → Option Nat} {vs : List Value} {j : Int32} (hf : am_find E.2.2.2 pc = some r) (hi : r.2.1 = .aastore) (ha : h[a]? = some (.inl (4, n, .inr (.inr (.inr (.inr f)))))) (hb0 : h[b]? = some (.inr (ci, vs))) (hci : (E.1.1[ci]?).map (·.1) = some "TraceAligner$Trace") (hin : vp_in j n)
    (k : am_B E R Z r.2.2.1 lo st (h.set a (.inl (4, n, .inr (.inr (.inr (.inr (va_up f j.toNatClampNeg (some b)))))))) rc rs) : am_B E R Z pc lo (.ref b :: .int j :: .ref a :: st) h rc rs := by
  intro ok l D cA sb base p e s m args below meth c C H locs cells slots ls hR hS h1 h2 hl
  have K := fun H1 l1 q1 q2 => k ok l D cA sb base p e s m args below meth c C H1 l1 cells slots ls q1 q2 h1 h2 hl
  obtain ⟨hm0, rfl⟩ := am_find_ok hf
  obtain ⟨hd, hn, -⟩ := ok.2.2 r hm0
  obtain ⟨hx, hb, hml, hret, hown, hts, hK, hlk, hnm⟩ := C
  rw [hi] at hd hn
  rw [hn] at K
  have a0 : a ≠ 0 := by
    rintro rfl
    obtain ⟨x, hx⟩ := hR.2.2.1
    rw [hx] at ha
    cases ha
  have aB : base ≤ am_ad sb base a := by
    obtain ⟨j, rfl⟩ : ∃ j, a = j + 1 := ⟨a - 1, by omega⟩
    exact am_ad_ge
  have hA := am_at_q (hR.2.2.2 a _ ha) (by decide)
  obtain ⟨q, hq1, hq2⟩ : ∃ q, E.1.1[ci]? = some q ∧ q.1 = "TraceAligner$Trace" := by
    cases hz : E.1.1[ci]? with
    | none => rw [hz] at hci; cases hci
    | some q => rw [hz] at hci; exact ⟨q, rfl, Option.some.inj hci⟩
  have hlt : j.toNatClampNeg < n := Nat.not_le.mp fun q => hin (Or.inr q)
  have h0 : ¬ j < 0 := fun q => hin (Or.inl q)
  obtain ⟨r', hr', cellV, g1, g2, g3, -⟩ := hR.2.2.2 b _ hb0
  have hcls := (hK.1 ci q hq1).2
  obtain ⟨kA, comp, k1, k2, k3, -⟩ := (hK.2.1 4 _ rfl rfl).2
  have hcomp : comp = D.1 ci := by
    have h5 := hcls.1
    rw [hq2] at h5
    exact Option.some.inj (k3.symm.trans h5)
  subst hcomp
  obtain ⟨kC, hkC, -⟩ := hcls.2
  refine W.aast hx hb hA (fun q h => by cases h) (fun h => by cases h) k1 k2 rfl hkC ⟨h0, by rw [arrV_size]; exact hlt⟩ g1 (fun q h => by rw [g3] at h; cases h) (by rw [g2]; exact hkC) (by rw [g2]; exact va_assign hcls) rfl rfl hd fun H1 e z oq => ?_
  refine K H1 _ (hR.set ha z oq a0 (am_mk_q (by decide) ?_)) (hS.put z oq aB)
  rw [e, arrV_store]
  congr 2
  funext q
  by_cases hq : q = j.toNatClampNeg
  · subst hq
    simp [updV, va_up, va_rf]
  · simp [updV, va_up, hq]
/-! ends -/
theorem am_B.iret {dc ds f : Nat} {Qa : Option Value → am_H → Prop} {x : Int32} (hf : am_find E.2.2.2 pc = some r) (hi : r.2.1 = .ireturn) (hret0 : E.2.2.1.2.2.2 = some .int) (hq : Qa (some (.int x)) h) : am_B E (am_rm f dc ds) (am_ZM E dc ds Qa) pc lo [.int x] h rc rs := by
  intro ok l D cA sb base p e s m args below meth c C H locs cells slots ls hR hS h1 h2 hl
  obtain ⟨hm0, rfl⟩ := am_find_ok hf
  obtain ⟨hd, -, -⟩ := ok.2.2 r hm0
  obtain ⟨hx, hb, hml, hret, hown, hts, hK, hlk, hnm⟩ := C
  rw [hi] at hd
  refine W.widen (k := dc) (n := ds) (by have : (am_rm f dc ds).cells = dc := rfl; omega) (by have : (am_rm f dc ds).slots = ds := rfl; omega) ?_
  exact W.zret (ty := .int) hx hb (hret.trans hret0) rfl (fun t ht hW => ⟨⟨some (.int x), h, rfl, hq, by rw [ht]; exact hR.moved hW.alike, hK.moved hW⟩, hS.F ht⟩) hS.2.2 hd
theorem am_B.zret {dc ds f : Nat} {Qa : Option Value → am_H → Prop} {x : Int32} (hf : am_find E.2.2.2 pc = some r) (hi : r.2.1 = .ireturn) (hret0 : E.2.2.1.2.2.2 = some .boolean) (h01 : am_fit 1 (.int x) = true) (hq : Qa (some (.int x)) h) : am_B E (am_rm f dc ds) (am_ZM E dc ds Qa) pc lo [.int x] h rc rs := by
  intro ok l D cA sb base p e s m args below meth c C H locs cells slots ls hR hS h1 h2 hl
  obtain ⟨hm0, rfl⟩ := am_find_ok hf
  obtain ⟨hd, -, -⟩ := ok.2.2 r hm0
  obtain ⟨hx, hb, hml, hret, hown, hts, hK, hlk, hnm⟩ := C
  rw [hi] at hd
  refine W.widen (k := dc) (n := ds) (by have : (am_rm f dc ds).cells = dc := rfl; omega) (by have : (am_rm f dc ds).slots = ds := rfl; omega) ?_
  exact W.zret (ty := .boolean) hx hb (hret.trans hret0) (am_fit_ok (sb := 0) (base := 0) (kd := 1) rfl h01).1 (fun t ht hW => ⟨⟨some (.int x), h, rfl, hq, by rw [ht]; exact hR.moved hW.alike, hK.moved hW⟩, hS.F ht⟩) hS.2.2 hd
theorem am_B.vret {dc ds f : Nat} {Qa : Option Value → am_H → Prop} (hf : am_find E.2.2.2 pc = some r) (hi : r.2.1 = .return_) (hret0 : E.2.2.1.2.2.2 = none) (hq : Qa none h) : am_B E (am_rm f dc ds) (am_ZM E dc ds Qa) pc lo [] h rc rs := by
  intro ok l D cA sb base p e s m args below meth c C H locs cells slots ls hR hS h1 h2 hl
  obtain ⟨hm0, rfl⟩ := am_find_ok hf
  obtain ⟨hd, -, -⟩ := ok.2.2 r hm0
  obtain ⟨hx, hb, hml, hret, hown, hts, hK, hlk, hnm⟩ := C
  rw [hi] at hd
  refine W.widen (k := dc) (n := ds) (by have : (am_rm f dc ds).cells = dc := rfl; omega) (by have : (am_rm f dc ds).slots = ds := rfl; omega) ?_
  exact W.vret hx hb (hret.trans hret0) (fun t ht hW => ⟨⟨none, h, rfl, hq, by rw [ht]; exact hR.moved hW.alike, hK.moved hW⟩, hS.F ht⟩) hS.2.2 hd
theorem am_B.lret {dc ds f : Nat} {Qa : Option Value → am_H → Prop} {x : Int64} (hf : am_find E.2.2.2 pc = some r) (hi : r.2.1 = .lreturn) (hret0 : E.2.2.1.2.2.2 = some .long) (hq : Qa (some (.long x)) h) : am_B E (am_rm f dc ds) (am_ZM E dc ds Qa) pc lo [.long x] h rc rs := by
  intro ok l D cA sb base p e s m args below meth c C H locs cells slots ls hR hS h1 h2 hl
  obtain ⟨hm0, rfl⟩ := am_find_ok hf
  obtain ⟨hd, -, -⟩ := ok.2.2 r hm0
  obtain ⟨hx, hb, hml, hret, hown, hts, hK, hlk, hnm⟩ := C
  rw [hi] at hd
  refine W.widen (k := dc) (n := ds) (by have : (am_rm f dc ds).cells = dc := rfl; omega) (by have : (am_rm f dc ds).slots = ds := rfl; omega) ?_
  exact W.lret hx hb (hret.trans hret0) (fun t ht hW => ⟨⟨some (.long x), h, rfl, hq, by rw [ht]; exact hR.moved hW.alike, hK.moved hW⟩, hS.F ht⟩) hS.2.2 hd
theorem am_B.dret {dc ds f : Nat} {Qa : Option Value → am_H → Prop} {x : UInt64} (hf : am_find E.2.2.2 pc = some r) (hi : r.2.1 = .dreturn) (hret0 : E.2.2.1.2.2.2 = some .double) (hq : Qa (some (.double x)) h) : am_B E (am_rm f dc ds) (am_ZM E dc ds Qa) pc lo [.double x] h rc rs := by
  intro ok l D cA sb base p e s m args below meth c C H locs cells slots ls hR hS h1 h2 hl
  obtain ⟨hm0, rfl⟩ := am_find_ok hf
  obtain ⟨hd, -, -⟩ := ok.2.2 r hm0
  obtain ⟨hx, hb, hml, hret, hown, hts, hK, hlk, hnm⟩ := C
  rw [hi] at hd
  refine W.widen (k := dc) (n := ds) (by have : (am_rm f dc ds).cells = dc := rfl; omega) (by have : (am_rm f dc ds).slots = ds := rfl; omega) ?_
  exact W.dret hx hb (hret.trans hret0) (fun t ht hW => ⟨⟨some (.double x), h, rfl, hq, by rw [ht]; exact hR.moved hW.alike, hK.moved hW⟩, hS.F ht⟩) hS.2.2 hd
theorem am_B.aret {dc ds f a : Nat} {C' : String} {Qa : Option Value → am_H → Prop} (hf : am_find E.2.2.2 pc = some r) (hi : r.2.1 = .areturn) (hret0 : E.2.2.1.2.2.2 = some (.object C')) (hq : Qa (some (.ref a)) h) : am_B E (am_rm f dc ds) (am_ZM E dc ds Qa) pc lo [.ref a] h rc rs := by
  intro ok l D cA sb base p e s m args below meth c C H locs cells slots ls hR hS h1 h2 hl
  obtain ⟨hm0, rfl⟩ := am_find_ok hf
  obtain ⟨hd, -, -⟩ := ok.2.2 r hm0
  obtain ⟨hx, hb, hml, hret, hown, hts, hK, hlk, hnm⟩ := C
  rw [hi] at hd
  refine W.widen (k := dc) (n := ds) (by have : (am_rm f dc ds).cells = dc := rfl; omega) (by have : (am_rm f dc ds).slots = ds := rfl; omega) ?_
  exact W.aret hx hb (hret.trans hret0) (Or.inl ⟨_, rfl⟩) (Or.inr ⟨_, rfl⟩) (fun t ht hW => ⟨⟨some (.ref a), h, rfl, hq, by rw [ht]; exact hR.moved hW.alike, hK.moved hW⟩, hS.F ht⟩) hS.2.2 hd
end CALLS
end
section
/-! THE PLAIN MACHINE's tables, as one program checks them: each row with its words' places -/
def am_has (big : List Jvm.Cond) (p : Nat) (w : Jvm.Cond) : Bool := decide (big[p]? = some w)
theorem am_has_in {big : List Jvm.Cond} {p : Nat} {w : Jvm.Cond} (h : am_has big p w = true) : w ∈ big := List.mem_of_getElem? (of_decide_eq_true h)
def am_all2 {α β : Type} (f : α → β → Bool) : List α → List β → Bool
  | [], [] => true
  | a :: s, b :: t => f a b && am_all2 f s t
  | _, _ => false
theorem am_all2_of {α β : Type} {f : α → β → Bool} : ∀ {s : List α} {t : List β}, am_all2 f s t = true → ∀ a ∈ s, ∃ b, f a b = true
  | [], _, _, _, h => nomatch h
  | a :: s, [], h, _, _ => by simp [am_all2] at h
  | a :: s, b :: t, h, x, hx => by
    simp only [am_all2, Bool.and_eq_true] at h
    rcases List.mem_cons.mp hx with rfl | hx
    · exact ⟨b, h.1⟩
    · exact am_all2_of h.2 x hx
def am_okFb (own : String) (cl : List vw_C) (big : List Jvm.Cond) (q : am_FR) (p : Nat) : Bool := match cl[q.2.1]? with
  | none => false
  | some r => decide (q.2.2.1 < r.2.2) && am_has big p (Jvm.Cond.fieldLink own q.1 (r.2.1 q.2.2.1).1 (r.2.1 q.2.2.1).2.1 (r.2.1 q.2.2.1).2.2.1) &&
    (match parseFieldDescriptor (r.2.1 q.2.2.1).2.2.1 with | some ty => am_kd q.2.2.2.1 ty | none => false) && decide (q.2.2.2.1 = 9 ∨ (r.2.1 q.2.2.1).2.2.2 = q.2.2.2.2) && (!q.2.2.2.2 || decide ((r.2.1 q.2.2.1).1 = own))
def am_okCb (big : List Jvm.Cond) (q : vw_C) (ps : List Nat) : Bool := am_all2 (fun w p => am_has big p w) (u_ws q.1 q.2.1 q.2.2) ps && (List.range q.2.2).all (fun a => (List.range q.2.2).all fun b => decide (a = b) || decide ((q.2.1 a).2.1 ≠ (q.2.1 b).2.1)) &&
  (List.range q.2.2).all (fun k => (parseFieldDescriptor (q.2.1 k).2.2.1).isSome)
theorem am_okC_of {big : List Jvm.Cond} {q : vw_C} {ps : List Nat} (h : am_okCb big q ps = true) : am_okC big q := by
  unfold am_okCb at h
  rw [Bool.and_eq_true, Bool.and_eq_true] at h
  obtain ⟨⟨h1, h2⟩, h3⟩ := h
  simp only [List.all_eq_true, decide_eq_true_eq, List.mem_range, Bool.or_eq_true] at h2 h3
  refine ⟨fun w hw => ?_, fun a ha b hb hne => (h2 a ha b hb).resolve_left hne, fun k => (parseFieldDescriptor (q.2.1 k).2.2.1).getD .int, fun k hk => ?_⟩
  · obtain ⟨p, hp⟩ := am_all2_of h1 w hw
    exact am_has_in hp
  · have := h3 k hk
    cases e : parseFieldDescriptor (q.2.1 k).2.2.1 with
    | none => rw [e] at this; cases this
    | some ty => simp only [e, Option.getD_some]
theorem am_okF_of {own : String} {cl : List vw_C} {big : List Jvm.Cond} (hC : ∀ q ∈ cl, am_okC big q) {FL : List am_FR} {ps : List Nat} (h : am_all2 (am_okFb own cl big) FL ps = true) : ∀ q ∈ FL, am_okF own cl big q := by
  intro q hq
  obtain ⟨p, h1⟩ := am_all2_of h q hq
  unfold am_okFb at h1
  split at h1
  · cases h1
  · rename_i r hr
    simp only [Bool.and_eq_true, decide_eq_true_eq, Bool.or_eq_true, Bool.not_eq_true'] at h1
    obtain ⟨⟨⟨⟨h1, h2⟩, h3⟩, h4⟩, h5⟩ := h1
    refine ⟨r.1, r.2.1, r.2.2, hr, hC r (List.mem_of_getElem? hr), h1, am_has_in h2, ?_, h4, fun hf => h5.resolve_left (by rw [hf]; decide)⟩
    split at h3
    · rename_i ty hty
      exact ⟨ty, hty, h3⟩
    · cases h3
def am_okNb (own : String) (cl : List vw_C) (big : List Jvm.Cond) (q : am_NR) (p : Nat × Nat × Nat) : Bool := match cl[q.2.1]? with
  | none => false
  | some r => am_has big p.1 (Jvm.Cond.classLink own q.1 r.1) && am_has big p.2.1 (Jvm.Cond.instantiable r.1 r.2.2) && am_has big p.2.2 (Jvm.Cond.initialized r.1) &&
    (List.range r.2.2).all (fun k => decide ((parseFieldDescriptor (r.2.1 k).2.2.1).map defaultValue = q.2.2[k]?)) && decide (q.2.2.length = r.2.2) && q.2.2.all (fun v => !(am_isk 1 v) || v == .null)
theorem am_okN_of {own : String} {cl : List vw_C} {big : List Jvm.Cond} (hC : ∀ q ∈ cl, am_okC big q) {NL : List am_NR} {ps : List (Nat × Nat × Nat)} (h : am_all2 (am_okNb own cl big) NL ps = true) : ∀ q ∈ NL, am_okN own cl big q := by
  intro q hq
  obtain ⟨p, h1⟩ := am_all2_of h q hq
  unfold am_okNb at h1
  split at h1
  · cases h1
  · rename_i r hr
    rw [Bool.and_eq_true, Bool.and_eq_true, Bool.and_eq_true, Bool.and_eq_true, Bool.and_eq_true] at h1
    obtain ⟨⟨⟨⟨⟨h1, h2⟩, h3⟩, h4⟩, h5⟩, h6⟩ := h1
    exact ⟨r.1, r.2.1, r.2.2, hr, hC r (List.mem_of_getElem? hr), am_has_in h1, am_has_in h2, am_has_in h3, fun k hk => of_decide_eq_true (List.all_eq_true.mp h4 k (List.mem_range.mpr hk)), of_decide_eq_true h5, h6⟩
/-- a call's row, with the host of a nest mate's -/
def am_okMb (own host : String) (cl : List vw_C) (big : List Jvm.Cond) (q : am_MR) (p : Nat × Nat × Nat × Nat × Nat) : Bool :=
  am_has big p.1 (Jvm.Cond.code q.2.2.2.2.1 q.2.2.2.2.2.1 q.2.2.2.2.2.2.1 q.2.2.2.2.2.2.2) && decide (q.2.2.2.2.1.cls ≠ "java/lang/invoke/MethodHandle") && decide (q.2.2.2.2.1.cls ≠ "java/lang/invoke/VarHandle") && decide ((parseMethodDescriptor q.2.2.2.2.1.desc).map (fun d => d.parameters.length) = some q.2.2.2.1) &&
  am_has big p.2.1 (Jvm.Cond.initialized q.2.2.2.2.1.cls) &&
  match q.2.1 with
  | 0 => am_has big p.2.2.1 (Jvm.Cond.methodLink own q.1 q.2.2.2.2.1) && am_has big p.2.2.2.1 (Jvm.Cond.instanceMethod q.2.2.2.2.1) && am_has big p.2.2.2.2 (Jvm.Cond.selects q.2.2.2.2.1.cls q.2.2.2.2.1 q.2.2.2.2.1) && decide ((cl[q.2.2.1]?).map (·.1) = some q.2.2.2.2.1.cls)
  | 1 => am_has big p.2.2.1 (Jvm.Cond.methodLink own q.1 q.2.2.2.2.1) && am_has big p.2.2.2.1 (Jvm.Cond.static q.2.2.2.2.1)
  | 2 => am_has big p.2.2.1 (Jvm.Cond.methodLink own q.1 q.2.2.2.2.1) && am_has big p.2.2.2.1 (Jvm.Cond.instanceMethod q.2.2.2.2.1) && decide (q.2.2.2.2.1.name = "<init>") && decide (q.2.2.2.2.2.2.2 = none)
  | 4 => decide ((own, q.1, q.2.2.2.2.1, host) ∈ am_nst) && am_has big p.2.2.2.1 (Jvm.Cond.static q.2.2.2.2.1)
  | 5 => decide ((own, q.1, q.2.2.2.2.1, host) ∈ am_nst) && am_has big p.2.2.2.1 (Jvm.Cond.instanceMethod q.2.2.2.2.1) && decide (q.2.2.2.2.1.name = "<init>") && decide (q.2.2.2.2.2.2.2 = none)
  | _ => false
theorem am_okM_of {own : String} (host : String) {cl : List vw_C} {big : List Jvm.Cond} {ML : List am_MR} {ps : List (Nat × Nat × Nat × Nat × Nat)} (h : am_all2 (am_okMb own host cl big) ML ps = true) : ∀ q ∈ ML, am_okM own cl big q := by
  intro q hq
  obtain ⟨p, h1⟩ := am_all2_of h q hq
  obtain ⟨i, kd, ci, n, M⟩ := q
  unfold am_okMb at h1
  rw [Bool.and_eq_true, Bool.and_eq_true, Bool.and_eq_true, Bool.and_eq_true, Bool.and_eq_true] at h1
  obtain ⟨⟨⟨⟨⟨h1, h2⟩, h3⟩, h4⟩, h5⟩, h6⟩ := h1
  refine ⟨am_has_in h1, ⟨of_decide_eq_true h2, of_decide_eq_true h3, of_decide_eq_true h4⟩, am_has_in h5, ?_⟩
  dsimp only at h6 ⊢
  split at h6
  · rw [Bool.and_eq_true, Bool.and_eq_true, Bool.and_eq_true] at h6
    exact ⟨am_has_in h6.1.1.1, am_has_in h6.1.1.2, am_has_in h6.1.2, of_decide_eq_true h6.2⟩
  · rw [Bool.and_eq_true] at h6
    exact ⟨am_has_in h6.1, am_has_in h6.2⟩
  · rw [Bool.and_eq_true, Bool.and_eq_true, Bool.and_eq_true] at h6
    exact ⟨am_has_in h6.1.1.1, am_has_in h6.1.1.2, of_decide_eq_true h6.1.2, of_decide_eq_true h6.2⟩
  · rw [Bool.and_eq_true] at h6
    exact ⟨host, of_decide_eq_true h6.1, am_has_in h6.2⟩
  · rw [Bool.and_eq_true, Bool.and_eq_true, Bool.and_eq_true] at h6
    exact ⟨host, of_decide_eq_true h6.1.1.1, am_has_in h6.1.1.2, of_decide_eq_true h6.1.2, of_decide_eq_true h6.2⟩
  · cases h6
def am_okRowb (own : String) (cc : ByteArray) (big : List Jvm.Cond) (r : am_Row) : Bool := decide (decode cc r.1 = .ok (r.2.1, am_len r.2.1)) && decide (r.2.2.1 = r.1 + am_len r.2.1) && am_okK own big r
theorem am_okRow_of {own : String} {cc : ByteArray} {big : List Jvm.Cond} {tb : List am_Row} (h : tb.all (am_okRowb own cc big) = true) : ∀ r ∈ tb, am_okRow own cc big r := by
  intro r hr
  have h1 := List.all_eq_true.mp h r hr
  unfold am_okRowb at h1
  rw [Bool.and_eq_true, Bool.and_eq_true] at h1
  exact ⟨of_decide_eq_true h1.1.1, of_decide_eq_true h1.1.2, h1.2⟩
theorem am_all_app {α : Type} {f : α → Bool} {a b : List α} (ha : a.all f = true) (hb : b.all f = true) : (a ++ b).all f = true := by rw [List.all_append, ha, hb]; rfl
end
section
/-! THE PLAIN MACHINE: new int[n][m] -/
theorem am_outer (c : ClassId) (N h0 : Nat) : ∀ i : Nat, Jvm.Free.Multi.outerC c N h0 i = arrV c N (fun j => va_rf (if j < i then some (h0 + 1 + j) else none))
  | 0 => by
    show ({ cls := c, slots := Array.replicate N .null, vm := .none } : Cell) = _
    rw [arrV_new]
    refine congrArg (arrV c N) (funext fun j => ?_)
    simp [va_rf]
  | i + 1 => by
    show (Jvm.Free.Multi.outerC c N h0 i).setSlot i (.ref (h0 + 1 + i)) = _
    rw [am_outer c N h0 i, arrV_store]
    refine congrArg (arrV c N) (funext fun j => ?_)
    by_cases e : j = i
    · subst e
      simp [updV, va_rf]
    · by_cases h : j < i
      · simp [updV, e, h, Nat.lt_succ_of_lt h]
      · simp [updV, e, h, show ¬ j < i + 1 by omega]
theorem am_B.mna {E : am_E} {R : Room} {Z : am_Z} {pc : Nat} {lo : am_L} {st : List Value} {h : am_H} {rc rs : Nat} {r : am_Row} {i N M : Nat} {n k : Int32} (hf : am_find E.2.2.2 pc = some r) (hi : r.2.1 = .multianewarray i 2) (hw1 : Jvm.Cond.classLink E.2.2.1.1.cls i ("[" ++ (FieldType.array FieldType.int).toString) ∈ E.1.2) (hw2 : Jvm.Cond.arrayClass .int ∈ E.1.2)
    (hn : n = nI N) (hk : k = nI M) (hN : N ≤ 60000000) (hM : M ≤ 60000000)
    (kk : am_B E R Z (pc + 4) lo (.ref h.length :: st) ((h ++ [.inl (5, N, .inr (.inr (.inr (.inr fun j => if j < N then some (h.length + 1 + j) else none))))]) ++ List.replicate N (.inl (0, M, .inl fun _ => 0))) rc rs) : am_B E R Z pc lo (.int k :: .int n :: st) h (rc + (1 + N)) (rs + (N + N * M)) := by
  intro ok l D cA sb base p e s m args below meth c C H locs cells slots ls hR hS h1 h2 hl
  have K := fun H1 l1 a1 a2 => kk ok l D cA sb base p e s m args below meth c C H1 l1 (cells + 1 + N) (slots + N + N * M) ls a1 a2 (by omega) (by omega) hl
  obtain ⟨hm0, rfl⟩ := am_find_ok hf
  obtain ⟨hd, -, -⟩ := ok.2.2 r hm0
  obtain ⟨hx, hb, hml, hret, hown, hts, hK, hlk, hnm⟩ := C
  rw [hi] at hd
  have hN31 : N < 2 ^ 31 := by omega
  have hM31 : M < 2 ^ 31 := by omega
  subst hn; subst hk
  have cN := nI_clamp hN31
  have cM := nI_clamp hM31
  have hover : (Jvm.Cond.arrayOver (.array .int)).before args s = true := hK.2.2.2.2
  intro T hT Xs
  have hb' : c.code = E.2.2.1.2.1 := hb
  obtain ⟨vm₁, cA', comp, hW1, fA, fC, hO, hI, X', step⟩ := Xs.multianewarray2F hx hown (hts _ hw1) hover (hts _ hw2) (g := F0 m r.1 ls (.int (nI M) :: .int (nI N) :: st.map (am_cv sb base))) rfl (by rw [hb']; exact hd) rfl (nI_pos hN31) (nI_pos hM31) (by rw [cN]; omega) (by rw [cM]; show M * 4 ≤ _; omega) (by rw [cM]; omega) rfl rfl (by rw [cN]; omega) (by rw [cN, cM]; omega)
  rw [cN, cM] at X' step
  have ecI : comp = cA 0 := Option.some.inj (fC.symm.trans (hK.2.1 0 .int rfl rfl).2)
  have ec5 : cA' = cA 5 := Option.some.inj (fA.symm.trans (hK.2.1 5 (.array .int) rfl rfl).2)
  subst ecI; subst ec5
  generalize hF : Jvm.Free.Multi.fill (T.setVm vm₁) (cA 5) (cA 0) N M (defaultValue FieldType.int) N = F at X' step
  have hTh : (T.setVm vm₁).heap = H := hT
  obtain ⟨f1, f2, -, -⟩ := Jvm.Free.Multi.fill_facts (T.setVm vm₁) (cA 5) (cA 0) N M (defaultValue FieldType.int) N
  rw [hF, hTh] at f1 f2
  have hold : ∀ x : Nat, x < H.size → F.heap[x]? = H[x]? := fun x hx => by
    have := Jvm.Free.Multi.fill_old (T.setVm vm₁) (cA 5) (cA 0) N M (defaultValue FieldType.int) (a := x) (by rw [hTh]; exact hx) N
    rw [hF, hTh] at this
    exact this
  have hrow : ∀ j : Nat, j < N → F.heap[H.size + 1 + j]? = some (arrV (cA 0) M (fun _ => .int 0)) := fun j hj => by
    have := Jvm.Free.Multi.fill_inner (T.setVm vm₁) (cA 5) (cA 0) N M (defaultValue FieldType.int) N j hj
    rw [hF, hTh] at this
    rw [this, ← arrV_new]
    rfl
  rw [am_outer] at f2
  have hp := hR.pos
  have hnx := hR.next
  have hsz := hR.2.1
  have had : ∀ j, am_ad sb base (h.length + j) = H.size + j := by
    intro j
    obtain ⟨q, hq⟩ : ∃ q, h.length = q + 1 := ⟨h.length - 1, by omega⟩
    rw [hq, show q + 1 + j = (q + j) + 1 by omega]
    show base + (q + j) = _
    omega
  have hTg : T.heap.size = H.size := by rw [hT]
  have hR' : am_R D E.1.1 cA sb base s ((h ++ [.inl (5, N, .inr (.inr (.inr (.inr fun j => if j < N then some (h.length + 1 + j) else none))))]) ++ List.replicate N (.inl (0, M, .inl fun _ => 0))) F.heap := by
    refine ⟨hR.1, by rw [f1]; simp only [List.length_append, List.length_singleton, List.length_replicate]; omega, ?_, fun k0 c0 hk0 => ?_⟩
    · obtain ⟨x, hx⟩ := hR.2.2.1
      exact ⟨x, by rw [List.append_assoc, List.getElem?_append_left hp]; exact hx⟩
    · by_cases q1 : k0 < h.length
      · rw [List.append_assoc, List.getElem?_append_left q1] at hk0
        exact (hR.2.2.2 k0 c0 hk0).kept (hold _ (hR.lt hk0))
      · obtain ⟨j, rfl⟩ : ∃ j, k0 = h.length + j := ⟨k0 - h.length, by omega⟩
        rw [List.append_assoc, List.getElem?_append_right (by omega), show h.length + j - h.length = j by omega] at hk0
        rw [had]
        cases j with
        | zero =>
          cases hk0
          refine am_mk_q (by decide) ?_
          rw [Nat.add_zero, f2]
          refine congrArg some (congrArg (arrV (cA 5) N) (funext fun j => ?_))
          by_cases q2 : j < N
          · simp only [q2, if_true, Option.map_some]
            rw [show h.length + 1 + j = h.length + (1 + j) by omega, had, Nat.add_assoc _ 1 j]
          · simp [q2]
        | succ j =>
          rw [List.cons_append, List.getElem?_cons_succ, List.nil_append, List.getElem?_replicate] at hk0
          split at hk0
          · rename_i q2
            cases hk0
            refine am_mk_i (by decide) ?_
            rw [show H.size + (j + 1) = H.size + 1 + j by omega]
            exact hrow j q2
          · cases hk0
  have hS' : va_S (fun q => base ≤ q) s.heap F.heap locs :=
    ⟨by rw [f1]; have := hS.1; omega, fun q q1 q2 => by rw [hold q (Nat.lt_of_lt_of_le q1 hS.1)]; exact hS.2.1 q q1 q2, hS.2.2⟩
  obtain ⟨t, a1, b1⟩ := K F.heap _ hR' hS' F rfl X'
  refine ⟨t, step t ?_, b1⟩
  rw [hTg, ← hnx]
  exact a1
end
section
/-! THE PLAIN MACHINE: switches, rows of rows -/
theorem am_assign_self (vm : Vm) (c : ClassId) : vm.assignable c c = true := by
  show vm.assignableAux _ c c = true
  unfold Vm.assignableAux
  simp
section MORE
variable {E : am_E} {R : Room} {Z : am_Z} {pc : Nat} {lo : am_L} {st : List Value} {h : am_H} {rc rs : Nat} {r : am_Row}
theorem am_B.tswIn {x : Int32} {dflt l0 h0 : Int} {offs : Array Int} {len tgt : Nat} {off : Int} (hd : decode E.2.2.1.2.1 pc = .ok (.tableswitch dflt l0 h0 offs, len)) (h1 : ¬ x.toInt < l0) (h2 : ¬ h0 < x.toInt) (ho : offs[(x.toInt - l0).toNat]? = some off) (ht : (pc : Int) + off = (tgt : Int))
    (k : am_B E R Z tgt lo st h rc rs) : am_B E R Z pc lo (.int x :: st) h rc rs := by
  intro ok l D cA sb base p e s m args below meth c C H locs cells slots ls hR hS g1 g2 hl
  exact lv_tableIn C.1 C.2.1 hd h1 h2 ho ht (k ok l D cA sb base p e s m args below meth c C H locs cells slots ls hR hS g1 g2 hl)
theorem am_B.tswOut {x : Int32} {dflt l0 h0 : Int} {offs : Array Int} {len tgt : Nat} (hd : decode E.2.2.1.2.1 pc = .ok (.tableswitch dflt l0 h0 offs, len)) (h1 : x.toInt < l0 ∨ h0 < x.toInt) (ht : (pc : Int) + dflt = (tgt : Int))
    (k : am_B E R Z tgt lo st h rc rs) : am_B E R Z pc lo (.int x :: st) h rc rs := by
  intro ok l D cA sb base p e s m args below meth c C H locs cells slots ls hR hS g1 g2 hl
  exact lv_tableOut C.1 C.2.1 hd h1 ht (k ok l D cA sb base p e s m args below meth c C H locs cells slots ls hR hS g1 g2 hl)
/-- new int[n][] -/
theorem am_B.newA {i n : Nat} {j : Int32} (hf : am_find E.2.2.2 pc = some r) (hi : r.2.1 = .anewarray i) (hw1 : Jvm.Cond.classLink E.2.2.1.1.cls i (FieldType.array FieldType.int).toString ∈ E.1.2) (hj : j = nI n) (hn : n ≤ 60000000)
    (k : am_B E R Z (pc + 3) lo (.ref h.length :: st) (h ++ [.inl (5, n, .inr (.inr (.inr (.inr fun _ => none))))]) rc rs) : am_B E R Z pc lo (.int j :: st) h (rc + 1) (rs + n) := by
  intro ok l D cA sb base p e s m args below meth c C H locs cells slots ls hR hS h1 h2 hl
  have K := fun H1 a1 a2 => k ok l D cA sb base p e s m args below meth c C H1 locs (cells + 1) (slots + n) ls a1 a2 (by omega) (by omega) hl
  obtain ⟨hm0, rfl⟩ := am_find_ok hf
  obtain ⟨hd, -, -⟩ := ok.2.2 r hm0
  obtain ⟨hx, hb, hml, hret, hown, hts, hK, hlk, hnm⟩ := C
  rw [hi] at hd
  have hn31 : n < 2 ^ 31 := by omega
  subst hj
  have hcl := nI_clamp hn31
  refine W.anewA hx hb hown (hts _ hw1) (show (Jvm.Cond.arrayOver (.array .int)).before args s = true from hK.2.2.2.2) rfl hd rfl (nI_pos hn31) (by rw [hcl]; omega) (by omega) (by rw [hcl]; omega) fun cA' kA comp f1 f2 f3 f4 => ?_
  rw [hcl]
  generalize hH1 : H.push ({ cls := cA', slots := Array.replicate n .null, vm := .none } : Cell) = H1
  have z1 : H1.size = H.size + 1 := by rw [← hH1, Array.size_push]
  have e1 : H1[H.size]? = some (arrV cA' n (fun _ => .null)) := by rw [← hH1, Array.getElem?_push_size, ← arrV_new]
  have o1 : ∀ q : Nat, q < H.size → H1[q]? = H[q]? := fun q hq => by rw [← hH1, Array.getElem?_push, if_neg (Nat.ne_of_lt hq)]
  have ecA : cA' = cA 5 := Option.some.inj (f1.symm.trans (hK.2.1 5 (.array .int) rfl rfl).2)
  rw [← hR.next]
  refine K H1 (hR.push z1 o1 (am_mk_q (by decide) ?_)) ⟨Nat.le_trans hS.1 (by omega), fun x a1 a2 => (o1 x (Nat.lt_of_lt_of_le a1 hS.1)).trans (hS.2.1 x a1 a2), hS.2.2⟩
  rw [e1, ecA]
  rfl
/-- a row into a row of rows -/
theorem am_B.aastA {a b n : Nat} {f : Nat → Option Nat} {y : Nat × (Nat → Int32)} {j : Int32} (hf : am_find E.2.2.2 pc = some r) (hi : r.2.1 = .aastore) (ha : h[a]? = some (.inl (5, n, .inr (.inr (.inr (.inr f)))))) (hb0 : h[b]? = some (.inl (0, y.1, .inl y.2))) (hin : vp_in j n)
    (k : am_B E R Z r.2.2.1 lo st (h.set a (.inl (5, n, .inr (.inr (.inr (.inr (va_up f j.toNatClampNeg (some b)))))))) rc rs) : am_B E R Z pc lo (.ref b :: .int j :: .ref a :: st) h rc rs := by
  intro ok l D cA sb base p e s m args below meth c C H locs cells slots ls hR hS h1 h2 hl
  have K := fun H1 l1 q1 q2 => k ok l D cA sb base p e s m args below meth c C H1 l1 cells slots ls q1 q2 h1 h2 hl
  obtain ⟨hm0, rfl⟩ := am_find_ok hf
  obtain ⟨hd, hn, -⟩ := ok.2.2 r hm0
  obtain ⟨hx, hb, hml, hret, hown, hts, hK, hlk, hnm⟩ := C
  rw [hi] at hd hn
  rw [hn] at K
  have a0 : a ≠ 0 := by
    rintro rfl
    obtain ⟨x, hx⟩ := hR.2.2.1
    rw [hx] at ha
    cases ha
  have aB : base ≤ am_ad sb base a := by
    obtain ⟨j, rfl⟩ : ∃ j, a = j + 1 := ⟨a - 1, by omega⟩
    exact am_ad_ge
  have hA := am_at_q (hR.2.2.2 a _ ha) (by decide)
  have hB := am_at_i (hR.2.2.2 b _ hb0) (by decide)
  have hlt : j.toNatClampNeg < n := Nat.not_le.mp fun q => hin (Or.inr q)
  have hj0 : ¬ j < 0 := fun q => hin (Or.inl q)
  obtain ⟨comp, c5, k5, s1, -, s3, s4, s5⟩ := am_AOA_spec hK.2.2.2.2
  have ec5 : c5 = cA 5 := Option.some.inj (s5.symm.trans (hK.2.1 5 (.array .int) rfl rfl).2)
  have ecI : comp = cA 0 := Option.some.inj (s1.symm.trans (hK.2.1 0 .int rfl rfl).2)
  subst ec5; subst ecI
  obtain ⟨-, kI, hkI, -⟩ := (hK.2.1 0 .int rfl rfl).1 0 (fun _ => .null)
  refine W.aast hx hb hA (fun q h => by cases h) (fun h => by cases h) s3 s4 rfl hkI ⟨hj0, by rw [arrV_size]; exact hlt⟩ hB (fun q h => by cases h) hkI (am_assign_self _ _) rfl rfl hd fun H1 e z oq => ?_
  refine K H1 _ (hR.set ha z oq a0 (am_mk_q (by decide) ?_)) (hS.put z oq aB)
  rw [e, arrV_store]
  congr 2
  funext q
  by_cases hq : q = j.toNatClampNeg
  · subst hq
    simp [updV, va_up, va_rf]
  · simp [updV, va_up, hq]
end MORE
end
section
/-! THE PLAIN MACHINE: methods that throw, and their catching -/
/-- words of the tables that are kept in their own way -/
def am_cst : List (String × String) := [("java/lang/IllegalStateException", "java/lang/IllegalStateException"), ("java/lang/IllegalArgumentException", "java/lang/IllegalArgumentException"), ("java/lang/IndexOutOfBoundsException", "java/lang/IndexOutOfBoundsException")]
def am_dcl : List MethodName := [⟨"java/lang/RuntimeException", "<init>", "()V"⟩, ⟨"java/lang/RuntimeException", "<init>", "(Ljava/lang/String;)V"⟩, ⟨"java/lang/Exception", "<init>", "()V"⟩, ⟨"java/lang/Exception", "<init>", "(Ljava/lang/String;)V"⟩, ⟨"java/lang/Throwable", "<init>", "()V"⟩, ⟨"java/lang/Throwable", "<init>", "(Ljava/lang/String;)V"⟩]
def am_ws9 : List Jvm.Cond := am_cst.map (fun q => .castable q.1 q.2) ++ am_dcl.map .declares
theorem am_ws9_on : ∀ w ∈ am_ws9, w.onTables = true := fun w h => List.all_eq_true.mp (show am_ws9.all (fun w => w.onTables) = true from rfl) w h
theorem am_ws9_moved {u U : State} (hW : u.WarmedH U.vm) (h : ∀ w ∈ am_ws9, va_Nw w u) : ∀ w ∈ am_ws9, va_Nw w U := fun w hw => by
  rcases List.mem_append.mp hw with z | z
  · obtain ⟨q, hq, rfl⟩ := List.mem_map.mp z
    exact va_Nw.warmC hW (h _ hw)
  · obtain ⟨y, hy, rfl⟩ := List.mem_map.mp z
    exact va_Nw.warmD hW (h _ hw)
/-- what a throw stands on: two static fields, the texts, what is no kind of what -/
def am_V (base : Nat) (U : State) : Prop := vx_Zq Bundle.tN "UNASSIGNED_STACK" Bundle.steD (fun q => base ≤ q) U U.heap ∧ vx_Zq Bundle.tN "SUPPRESSED_SENTINEL" Bundle.listD (fun q => base ≤ q) U U.heap ∧ (∀ q ∈ am_str, ∃ sa, vk_R q.1 q.2.1 q.2.2 sa U) ∧ (∀ q ∈ am_ncs, va_Nc q.1 q.2 U) ∧ ∀ w ∈ am_ws9, va_Nw w U
theorem am_V.moved {base : Nat} {u U : State} (hW : u.WarmedH U.vm) (hq : ∀ a : Nat, a < u.heap.size → ¬ base ≤ a → U.heap[a]? = u.heap[a]?) (h : am_V base u) : am_V base U :=
  ⟨vx_Zq.moved hW.alike (h.1.kept hq), vx_Zq.moved hW.alike (h.2.1.kept hq), fun q hm => (h.2.2.1 q hm).imp fun sa z => vk_R.warm hW z, fun q hm => va_Nc.moved hW.alike (h.2.2.2.1 q hm), am_ws9_moved hW h.2.2.2.2⟩
def am_P (hh : List (Nat × Nat × Nat × Nat)) (l : Launch) (c : Code) (base : Nat) (s : State) : Prop := l.stackTraces = false ∧ c.exceptionTable.toList = tableOf hh ∧ am_V base s
/-- thrown: the class, and the cells h' that are left -/
def am_XC (D : va_G) (cl : List vw_C) (cA : Nat → ClassId) (sb base : Nat) (Xa : String → am_H → Prop) : String → State → State → Prop := fun En st t => (∃ h', Xa En h' ∧ am_R D cl cA sb base t h' t.heap) ∧ va_F (fun q => base ≤ q) st t
def am_ZX (E : am_E) (dc ds : Nat) (Qa : Option Value → am_H → Prop) (Xa : String → am_H → Prop) : am_Z := fun l c D cA sb base below args s t => am_P [] l c base s → vx_MQ below (am_Qc D E.1.1 cA sb base Qa) (am_XC D E.1.1 cA sb base Xa) args s dc ds (fun q => base ≤ q) t
def am_ZW (E : am_E) (hh : List (Nat × Nat × Nat × Nat)) (dc ds : Nat) (Qa : Option Value → am_H → Prop) : am_Z := fun l c D cA sb base below args s t => am_P hh l c base s → MQ below (am_Qc D E.1.1 cA sb base Qa) args s dc ds (fun q => base ≤ q) t
def am_PV (D : va_G) (cl : List vw_C) (cA : Nat → ClassId) (sb base : Nat) (av : List Value) (h : am_H) : Array Value → State → Prop := va_Pc (av.map (am_cv sb base)) (fun U => (am_R D cl cA sb base U h U.heap ∧ am_K D cl cA am_tys U) ∧ am_V base U)
theorem am_blindV {D : va_G} {cl : List vw_C} {cA : Nat → ClassId} {sb base : Nat} {h : am_H} {av : List Value} : FrameBlind (am_PV D cl cA sb base av h) :=
  fun a U g mk q => ⟨q.1, ⟨am_R.moved (u := U) (U := U.calling g mk a) (Vm.Alike.refl U.vm) q.2.1.1, am_K.moved (u := U) (U := U.calling g mk a) (State.WarmedH.refl U) q.2.1.2⟩, am_V.moved (u := U) (U := U.calling g mk a) (State.WarmedH.refl U) (fun _ _ _ => rfl) q.2.2⟩
/-- THE CONTRACT of a method that may throw -/
def am_CtX (G : List vw_C × List Jvm.Cond) (M : am_M) (f dc ds : Nat) (av : List Value) (h : am_H) (Qa : Option Value → am_H → Prop) (Xa : String → am_H → Prop) : Prop :=
  ∀ (l : Launch), l.stackTraces = false → ∀ (D : va_G) (cA : Nat → ClassId) (sb base : Nat), vx_Met l M.1 (.code M.1 M.2.1 M.2.2.1 M.2.2.2 :: G.2) (am_rm f dc ds) (am_PV D G.1 cA sb base av h) (am_Qc D G.1 cA sb base Qa) (am_XC D G.1 cA sb base Xa) dc ds (fun q => base ≤ q)
/-- of one that catches -/
def am_CtW (G : List vw_C × List Jvm.Cond) (M : am_M) (hh : List (Nat × Nat × Nat × Nat)) (f dc ds : Nat) (av : List Value) (h : am_H) (Qa : Option Value → am_H → Prop) : Prop :=
  ∀ (l : Launch), l.stackTraces = false → ∀ (D : va_G) (cA : Nat → ClassId) (sb base : Nat), Met l M.1 (.codeWith M.1 M.2.1 M.2.2.1 M.2.2.2 hh :: G.2) (am_rm f dc ds) (am_PV D G.1 cA sb base av h) (am_Qc D G.1 cA sb base Qa) dc ds (fun q => base ≤ q)
theorem am_CtX.of {E : am_E} {f dc ds : Nat} {av : List Value} {h : am_H} {Qa : Option Value → am_H → Prop} {Xa : String → am_H → Prop} (hE : am_okE E) (hy : plainName E.2.2.1.1.cls = true) (hn : (am_lo av).length ≤ E.2.2.1.2.2.1)
    (k : am_B E (am_rm f dc ds) (am_ZX E dc ds Qa Xa) 0 (am_lo0 av E.2.2.1.2.2.1) [] h dc ds) : am_CtX E.1 E.2.2.1 f dc ds av h Qa Xa := by
  intro l hl9 D cA sb base
  refine vx_ofW (cc := E.2.2.1.2.1) (maxL := E.2.2.1.2.2.1) (ret := E.2.2.1.2.2.2) hy rfl ?_
  intro p e s m args below meth c s₁ B hml ht hv
  obtain ⟨rfl, ⟨hR, hK⟩, hV⟩ := hv
  have hts := atoms_spec (ws := .code E.2.2.1.1 E.2.2.1.2.1 E.2.2.1.2.2.1 E.2.2.1.2.2.2 :: E.1.2) B.pre
  have hown : s.vm.findClass E.2.2.1.1.cls = some m.cls := findClass_of_methodNamed B.named
  have K := k hE l D cA sb base p e s m _ below meth c ⟨B.exec, B.bytes, hml, B.returns, hown, fun w hw => hts w (List.mem_cons_of_mem _ hw), hK, B.notSynchronized, (name_of_methodNamed B.named B.method).1⟩
    s.heap [] 0 0 _ hR va_S.rf (by show 0 + dc ≤ dc; omega) (by show 0 + ds ≤ ds; omega) (am_entry hn)
  rw [lg_entry_eq]
  intro T hT X
  obtain ⟨t, a1, b1⟩ := K T hT X
  exact ⟨t, a1, b1 ⟨hl9, List.eq_nil_iff_forall_not_mem.mpr (fun x hx => ht x hx), hV⟩⟩
theorem am_CtW.of {E : am_E} {hh : List (Nat × Nat × Nat × Nat)} {f dc ds : Nat} {av : List Value} {h : am_H} {Qa : Option Value → am_H → Prop} (hE : am_okE E) (hy : plainName E.2.2.1.1.cls = true) (hn : (am_lo av).length ≤ E.2.2.1.2.2.1)
    (k : am_B E (am_rm f dc ds) (am_ZW E hh dc ds Qa) 0 (am_lo0 av E.2.2.1.2.2.1) [] h dc ds) : am_CtW E.1 E.2.2.1 hh f dc ds av h Qa := by
  intro l hl9 D cA sb base
  refine va_MetW (cc := E.2.2.1.2.1) (maxL := E.2.2.1.2.2.1) (ret := E.2.2.1.2.2.2) hy rfl ?_
  intro p e s m args below meth c s₁ B hml hv
  obtain ⟨rfl, ⟨hR, hK⟩, hV⟩ := hv
  have hts := atoms_spec (ws := .codeWith E.2.2.1.1 E.2.2.1.2.1 E.2.2.1.2.2.1 E.2.2.1.2.2.2 hh :: E.1.2) B.pre
  have hown : s.vm.findClass E.2.2.1.1.cls = some m.cls := findClass_of_methodNamed B.named
  have K := k hE l D cA sb base p e s m _ below meth c ⟨B.exec, B.bytes, hml, B.returns, hown, fun w hw => hts w (List.mem_cons_of_mem _ hw), hK, B.notSynchronized, (name_of_methodNamed B.named B.method).1⟩
    s.heap [] 0 0 _ hR va_S.rf (by show 0 + dc ≤ dc; omega) (by show 0 + ds ≤ ds; omega) (am_entry hn)
  rw [lg_entry_eq]
  intro T hT X
  obtain ⟨t, a1, b1⟩ := K T hT X
  exact ⟨t, a1, b1 ⟨hl9, vx_table (x := E.2.2.1.1) B (hts _ List.mem_cons_self), hV⟩⟩
section THROW
variable {E : am_E} {R : Room} {Z : am_Z} {pc : Nat} {lo lo' : am_L} {st rest : List Value} {h : am_H} {rc rs : Nat} {r : am_Row} {dc ds f : Nat} {Qa : Option Value → am_H → Prop} {Xa : String → am_H → Prop} {hh : List (Nat × Nat × Nat × Nat)}
/-- a walk to its end without a throw -/
theorem am_B.toX (k : am_B E R (am_ZM E dc ds Qa) pc lo st h rc rs) : am_B E R (am_ZX E dc ds Qa Xa) pc lo st h rc rs := by
  intro ok l D cA sb base p e s m args below meth c C H locs cells slots ls hR hS h1 h2 hl T hT X
  obtain ⟨t, a1, o, b1, b2, b3, b4⟩ := k ok l D cA sb base p e s m args below meth c C H locs cells slots ls hR hS h1 h2 hl T hT X
  exact ⟨t, a1, fun _ => ⟨o, b1, b2, Or.inl ⟨b3, b4⟩⟩⟩
theorem am_B.toW (k : am_B E R (am_ZM E dc ds Qa) pc lo st h rc rs) : am_B E R (am_ZW E hh dc ds Qa) pc lo st h rc rs := by
  intro ok l D cA sb base p e s m args below meth c C H locs cells slots ls hR hS h1 h2 hl T hT X
  obtain ⟨t, a1, b1⟩ := k ok l D cA sb base p e s m args below meth c C H locs cells slots ls hR hS h1 h2 hl T hT X
  exact ⟨t, a1, fun _ => b1⟩
/-- 'throw new E("text")', nothing under it on the stack -/
theorem am_B.thr {i0 i4 i6 : Nat} {cls text : String} {names : List String} {r0 r3 r4 r6 r9 : am_Row} (h0 : am_find E.2.2.2 pc = some r0) (g0 : r0.2.1 = .new i0) (h3 : am_find E.2.2.2 (pc + 3) = some r3) (g3 : r3.2.1 = .dup) (h4 : am_find E.2.2.2 (pc + 4) = some r4) (g4 : r4.2.1 = .ldc i4) (h6 : am_find E.2.2.2 (pc + 6) = some r6) (g6 : r6.2.1 = .invokespecial i6) (h9 : am_find E.2.2.2 (pc + 9) = some r9) (g9 : r9.2.1 = .athrow)
    (hcls : Bundle.fit cls = true) (hnames : ∀ n ∈ names, Bundle.fit n = true) (hw : ∀ w ∈ Cond.classLink E.2.2.1.1.cls i0 cls :: Cond.initialized cls :: vx_atS E.2.2.1.1.cls i6 cls names, w ∈ E.1.2 ∨ w ∈ am_ws9) (hstr : (E.2.2.1.1.cls, i4, text) ∈ am_str) (hf : names.length + 3 < f) (hfl : 13 * (names.length + 1) + 43 ≤ 36 * f)
    (hq : ∀ d, Xa cls (h ++ List.replicate d am_unk)) : am_B E (am_rm f dc ds) (am_ZX E dc ds Qa Xa) pc lo [] h (rc + 1) (rs + 6) := by
  intro ok l D cA sb base p e s m args below meth c C H locs cells slots ls hR hS k1 k2 hl
  obtain ⟨hx, hb, hml, hret, hown, hts, hK, hlk, hnm⟩ := C
  have dec : ∀ {q : Nat} {r : am_Row}, am_find E.2.2.2 q = some r → decode E.2.2.1.2.1 q = .ok (r.2.1, am_len r.2.1) := fun {q r} hf9 => by
    obtain ⟨hm0, rfl⟩ := am_find_ok hf9
    exact (ok.2.2 r hm0).1
  have d0 := dec h0
  have d3 := dec h3
  have d4 := dec h4
  have d6 := dec h6
  have d9 := dec h9
  rw [g0] at d0
  rw [g3] at d3
  rw [g4] at d4
  rw [g6] at d6
  rw [g9] at d9
  by_cases hP : am_P [] l c base s
  · obtain ⟨sa, hsa⟩ := hP.2.2.2.2.1 _ hstr
    have hts9 : ∀ w, w ∈ E.1.2 ∨ w ∈ am_ws9 → w.before args s = true := fun w hw9 => hw9.elim (hts w) (fun z => va_Nw.use (am_ws9_on w z) (hP.2.2.2.2.2.2 w z))
    have hgo9 : ∀ w, w ∈ E.1.2 ∨ w ∈ am_ws9 → vx_ot w = true := fun w hw9 => hw9.elim (fun z => by unfold vx_ot; rw [ok.1 w z, Bool.or_true]) (fun z => by unfold vx_ot; rw [am_ws9_on w z, Bool.true_or])
    have rc9 : cells + (rc + 1) ≤ dc := k1
    have rs9 : slots + (rs + 6) ≤ ds := k2
    intro T hT X
    obtain ⟨t, a1, b1⟩ := vx_throwS (A := fun q => base ≤ q) (Qc := am_Qc D E.1.1 cA sb base Qa) (XC := am_XC D E.1.1 cA sb base Xa) (mc := dc) (ms := ds) (free := fun q => base ≤ q) (rest := []) hx hb hP.1 hown hcls hnames
      (hts9 _ (hw _ List.mem_cons_self)) (hts9 _ (hw _ (List.mem_cons_of_mem _ List.mem_cons_self))) hsa (fun w hw' => hts9 w (hw _ (List.mem_cons_of_mem _ (List.mem_cons_of_mem _ hw')))) (fun w hw' => hgo9 w (hw w hw'))
      hP.2.2.1 hP.2.2.2.1 hS (hl.2.1.trans hml.symm) d0 d3 d4 d6 d9 (fun x hx9 => by rw [hP.2.1] at hx9; cases hx9) hf (by show 0 + _ ≤ 36 * f; omega) (by show cells + 1 ≤ dc; omega) (by show slots + 6 ≤ ds; omega) hlk
      (fun t hal hz ho => ⟨⟨_, hq (t.heap.size - H.size), (hR.grow hz ho).moved hal⟩, Nat.le_trans hS.1 hz, fun q q1 q2 => (ho q (Nat.lt_of_lt_of_le q1 hS.1)).trans (hS.2.1 q q1 q2)⟩) hS.2.2 (by omega) (by omega) T hT X
    exact ⟨t, a1, fun _ => b1⟩
  · intro T hT X
    exact ⟨_, Steps.refl _, fun z => absurd z hP⟩
end THROW
section XCALLS
variable {D : va_G} {cl : List vw_C} {cA : Nat → ClassId} {sb base : Nat} {p : Program} {l : Launch} {e : Env} {R : Room} {s : State} {m : MethodId} {args : Array Value} {below : List Frame} {meth : Method} {c : Code} {Q : State → Prop}
/-- behind a call that returned or threw -/
theorem am_backX {H : Heap} {locs : List Loc} {cells slots mc ms pc : Nat} {ls : Array Slot} {st0 rest : List Value} {a : Array Value} {Qa : Option Value → am_H → Prop} {Xa : String → am_H → Prop}
    (hr : vx_Run p l e R s m args below meth c H locs cells slots mc ms (F0 m pc ls st0) (rest.map (am_cv sb base)) (am_Qc D cl cA sb base Qa a) (am_XC D cl cA sb base Xa) (fun q => base ≤ q)) (hS : va_S (fun q => base ≤ q) s.heap H locs)
    (kk : ∀ (v : Option Value) (h' : am_H) (H1 : Heap) (locs1 : List Loc), Qa v h' → am_R D cl cA sb base s h' H1 → va_S (fun q => base ≤ q) s.heap H1 locs1 → W p l e R s m args below meth c H1 locs1 (cells + mc) (slots + ms) Q (F0 m (pc + 3) ls ((v.toList ++ rest).map (am_cv sb base))))
    (kx : ∀ (En : String) (ce : Cell) (q : Addr) (h' : am_H) (H1 : Heap) (locs1 : List Loc), Xa En h' → am_R D cl cA sb base s h' H1 → va_S (fun q => base ≤ q) s.heap H1 locs1 → H1[q]? = some ce → ce.vm = .none → s.vm.findClass En = some ce.cls → vx_W p l e R s m args below meth c H1 locs1 (cells + mc) (slots + ms) Q (F0 m pc ls (rest.map (am_cv sb base))) q) :
    W p l e R s m args below meth c H locs cells slots Q (F0 m pc ls st0) := by
  intro T hT X
  rcases hr T hT X with ⟨v, st₀, t, T', L, h0, X', hL, e1, e2, ⟨⟨v', h', ev, hQ, hR, hK⟩, hz, hk⟩, st⟩ | ⟨q, st₀, t, T', L, En, ce, h0, X', hL, e1, e2, ⟨⟨h', hQ, hR⟩, hz, hk⟩, hce, hcv, hcl, st⟩
  · cases ev
    rw [h0] at hz hk
    have hal : t.vm.Alike s.vm := by rw [← e2]; exact X'.warmed.alike.symm
    obtain ⟨t2, a1, b1⟩ := kk v' h' T'.heap (locs ++ L) hQ (by rw [e1]; exact hR.moved hal)
      ⟨Nat.le_trans hS.1 (by rw [e1]; exact hz), fun q h1 h2 => by rw [e1, hk q (Nat.lt_of_lt_of_le h1 hS.1) h2]; exact hS.2.1 q h1 h2, fun q hq => by
        rcases List.mem_append.mp hq with h | h
        · exact hS.2.2 q h
        · exact hL q h⟩ T' rfl X'
    refine ⟨t2, st t2 ?_, b1⟩
    have e5 : (v'.map (am_cv sb base)).toList ++ rest.map (am_cv sb base) = (v'.toList ++ rest).map (am_cv sb base) := by cases v' <;> rfl
    rw [e5]
    exact a1
  · rw [h0] at hz hk
    have hal : t.vm.Alike s.vm := by rw [← e2]; exact X'.warmed.alike.symm
    obtain ⟨t2, a1, b1⟩ := kx En ce q h' T'.heap (locs ++ L) hQ (by rw [e1]; exact hR.moved hal)
      ⟨Nat.le_trans hS.1 (by rw [e1]; exact hz), fun q h1 h2 => by rw [e1, hk q (Nat.lt_of_lt_of_le h1 hS.1) h2]; exact hS.2.1 q h1 h2, fun q hq => by
        rcases List.mem_append.mp hq with h | h
        · exact hS.2.2 q h
        · exact hL q h⟩ (by rw [e1]; exact hce) hcv hcl T' rfl X'
    exact ⟨t2, st.trans a1, b1⟩
end XCALLS
section XRULES
variable {E : am_E} {R : Room} {Z : am_Z} {pc : Nat} {lo lo' : am_L} {st rest : List Value} {h : am_H} {rc rs : Nat} {r : am_Row} {DC DS F : Nat} {Qb : Option Value → am_H → Prop} {Xb : String → am_H → Prop} {hh : List (Nat × Nat × Nat × Nat)}
/-- an object's method that may throw; what it throws goes on to the caller -/
theorem am_B.callVX {i ci n f dc ds a : Nat} {M : am_M} {as : List Value} {vs : List Value} {Qa : Option Value → am_H → Prop} {Xa : String → am_H → Prop} (hf : am_find E.2.2.2 pc = some r) (hi : r.2.1 = .invokevirtual i) (hm : am_mfind E.2.1.2.2 i = some (i, 0, ci, n, M)) (hc : am_CtX E.1 M f dc ds (.ref a :: as) h Qa Xa)
    (hst : st = as.reverse ++ .ref a :: rest) (hn : as.length = n) (hw : am_wd rest ≤ 8) (hfit : am_fits (am_rm F DC DS) f M.2.2.1 = true) (ha : h[a]? = some (.inr (ci, vs))) {rc0 rs0 : Nat} (hrc : rc + dc = rc0) (hrs : rs + ds = rs0) (k : ∀ v h', Qa v h' → am_B E (am_rm F DC DS) (am_ZX E DC DS Qb Xb) (pc + 3) lo (v.toList ++ rest) h' rc rs) (kx : ∀ En h', Xa En h' → Xb En h') :
    am_B E (am_rm F DC DS) (am_ZX E DC DS Qb Xb) pc lo st h rc0 rs0 := by
  subst hrc; subst hrs
  intro ok l D cA sb base p e s m args below meth c C H locs cells slots ls hR hS h1 h2 hl
  by_cases hP : am_P [] l c base s
  rotate_left
  · intro T hT X
    exact ⟨_, Steps.refl _, fun z => absurd z hP⟩
  obtain ⟨hm0, rfl⟩ := am_find_ok hf
  obtain ⟨hd, -, -⟩ := ok.2.2 r hm0
  obtain ⟨hq, -⟩ := am_mfind_ok hm
  obtain ⟨hcode, hdes, hini, hlink, hinst, hsel, hcl⟩ := ok.2.1.2.2 _ hq
  dsimp only at hcode hdes hini hlink hinst hsel hcl
  have C0 := C
  obtain ⟨hx, hb, hml, hret, hown, hts, hK, hlk, hnm⟩ := C
  rw [hi] at hd
  subst hst
  have hfr := am_fits_ok hfit
  have r1 : cells + (rc + dc) ≤ DC := h1
  have r2 : slots + (rs + ds) ≤ DS := h2
  obtain ⟨q, hq1, hq2⟩ : ∃ q, E.1.1[ci]? = some q ∧ q.1 = M.1.cls := by
    cases hz : E.1.1[ci]? with
    | none => rw [hz] at hcl; cases hcl
    | some q => rw [hz] at hcl; exact ⟨q, rfl, Option.some.inj hcl⟩
  obtain ⟨r', hr', cell, g1, g2, g3, -⟩ := hR.2.2.2 a _ ha
  refine am_backX (vx_runV (C := M.1.cls) (As := as.map (am_cv sb base)) (rest := rest.map (am_cv sb base)) ⟨hx, hb, hml, hown, hts⟩ (hc l hP.1 D cA sb base)
    ⟨callB_of n hts (am_good ok.1 hcode) rfl rfl rfl (hts _ hini) (hts _ hlink) hdes hfr, hts _ hinst, hts _ hsel⟩
    ⟨am_blindV, ⟨cell, g1, by rw [g3]; rfl, by rw [g2, ← hq2]; exact (hK.1 ci q hq1).2.1⟩, fun U hU hW => ⟨rfl, ⟨by rw [hU]; exact hR.moved hW.alike, hK.moved hW⟩, am_V.moved hW (fun a q1 q2 => by rw [hU]; exact hS.2.1 a q1 q2) hP.2.2⟩⟩ rfl (by rw [List.length_map]; exact hn) hl.2.1 (by simp [am_cv]) ?_ hd ⟨by show cells + dc ≤ DC; omega, by show slots + ds ≤ DS; omega⟩) hS
    (fun v h' H1 locs1 hQ hR1 hS1 => k v h' hQ ok l D cA sb base p e s m args below meth c C0 H1 locs1 (cells + dc) (slots + ds) ls hR1 hS1 (by show cells + dc + rc ≤ DC; omega) (by show slots + ds + rs ≤ DS; omega) hl) ?_
  · show 2 * 0 + _ ≤ 8
    rw [am_wd_cv]
    omega
  · intro En ce q9 h' H1 locs1 hXa hR1 hS1 hce hcv hcl9 T hT X
    obtain ⟨t, a1, b1⟩ := vx_out (E := En) (mc := DC) (ms := DS) (free := fun q => base ≤ q) (Qc := am_Qc D E.1.1 cA sb base Qb) (XC := am_XC D E.1.1 cA sb base Xb) (fun x hx9 => by rw [hP.2.1] at hx9; cases hx9) hlk hce hcv hcl9
      (fun t ht hal => ⟨⟨h', kx En h' hXa, by rw [ht]; exact hR1.moved hal⟩, hS1.F ht⟩) hS1.2.2 (by omega) (by omega) T hT X
    exact ⟨t, a1, fun _ => b1⟩
/-- a handler: its row, what it catches; it lays the thrown away -/
def am_hd (E : am_E) (R : Room) (Z : am_Z) (hh : List (Nat × Nat × Nat × Nat)) (pc : Nat) (lo : am_L) (En : String) (h' : am_H) (rc rs : Nat) : Prop :=
  ∃ (pre suf : List (Nat × Nat × Nat × Nat)) (x : Nat × Nat × Nat × Nat) (name : String) (r : am_Row) (k : Nat), hh = pre ++ x :: suf ∧ (∀ z ∈ pre, z.2.2.2 ≠ 0 ∧ ∃ nm : String, Jvm.Cond.classLink E.2.2.1.1.cls z.2.2.2 nm ∈ E.1.2 ∧ (En, nm) ∈ am_ncs) ∧ (x.1 ≤ pc ∧ pc < x.2.1) ∧ x.2.2.2 ≠ 0 ∧
    Jvm.Cond.classLink E.2.2.1.1.cls x.2.2.2 name ∈ E.1.2 ∧ (En, name) ∈ am_cst ∧ am_find E.2.2.2 x.2.2.1 = some r ∧ ((∃ j : Fin 4, r.2.1 = .astore_n j ∧ j.val = k) ∨ r.2.1 = .astore k) ∧ (am_st1 lo k .null).isSome = true ∧ am_B E R Z r.2.2.1 (lo.set k none) [] h' rc rs
theorem am_catch {D : va_G} {cA : Nat → ClassId} {sb base : Nat} {p : Program} {l : Launch} {e : Env} {s : State} {m : MethodId} {args : Array Value} {below : List Frame} {meth : Method} {c : Code} {H1 : Heap} {locs1 : List Loc} {cells slots : Nat} {ls : Array Slot} {rest9 : List Value} {En : String} {ce : Cell} {q9 : Addr} {h' : am_H}
    (hd : am_hd E R Z hh pc lo En h' rc rs) (ok : am_okE E) (C : am_Cx E D cA p s m args meth c) (hP : am_P hh l c base s) (hR1 : am_R D E.1.1 cA sb base s h' H1) (hS1 : va_S (fun q => base ≤ q) s.heap H1 locs1) (hce : H1[q9]? = some ce) (hcv : ce.vm = .none) (hcl9 : s.vm.findClass En = some ce.cls)
    (g1 : cells + rc ≤ R.cells) (g2 : slots + rs ≤ R.slots) (hl : am_LR (am_cv sb base) ls E.2.2.1.2.2.1 lo) :
    vx_W p l e R s m args below meth c H1 locs1 cells slots (Z l c D cA sb base below args s) (F0 m pc ls rest9) q9 := by
  obtain ⟨pre, suf, x, name, r, k, e1, e2, e3, e4, e5, e6, e7, e8, e9, e10⟩ := hd
  have C0 := C
  obtain ⟨hx, hb, hml, hret, hown, hts, hK, hlk, hnm⟩ := C
  obtain ⟨hm0, hr0⟩ := am_find_ok e7
  obtain ⟨hdec, hnx, -⟩ := ok.2.2 r hm0
  rw [hr0] at hdec hnx
  refine vx_catch (own := E.2.2.1.1.cls) (name := name) (E := En) hown (tableOf pre) ⟨x.1, x.2.1, x.2.2.1, x.2.2.2⟩ (tableOf suf) (by rw [hP.2.1, e1]; unfold tableOf; rw [List.map_append, List.map_cons]) (fun z hz => ?_) (by simp [covers, e3.1, e3.2]) e4 (hts _ e5) (va_Nw.use rfl (hP.2.2.2.2.2.2 _ (List.mem_append_left _ (List.mem_map.mpr ⟨_, e6, rfl⟩)))) hce hcv hcl9 ?_
  · obtain ⟨z0, hz0, rfl⟩ := List.mem_map.mp hz
    obtain ⟨q1, nm, q2, q3⟩ := e2 z0 hz0
    exact Or.inr ⟨q1, nm, hts _ q2, hP.2.2.2.2.2.1 _ q3⟩
  · have K := fun ls' hl' => e10 ok l D cA sb base p e s m args below meth c C0 H1 locs1 cells slots ls' hR1 hS1 g1 g2 hl'
    obtain ⟨lo1, hlo1⟩ := Option.isSome_iff_exists.mp e9
    obtain ⟨a1, a2, a3⟩ := am_st1_ok (am_cv_cat sb base) hl hlo1 rfl
    have hlo2 : lo1 = lo.set k (some .null) := by
      unfold am_st1 at hlo1
      split at hlo1
      · cases hlo1
      · cases hb2 : am_c2 lo k <;> rw [hb2] at hlo1 <;> simp only [cond_true, cond_false] at hlo1
        · exact (Option.some.inj hlo1).symm
        · cases hlo1
    have sub9 : ∀ (w : Value), ∀ q ∈ am_lp (am_cv sb base) 0 (lo.set k none), q ∈ (k, w) :: (am_lp (am_cv sb base) 0 lo).filter (fun q => !(q.1 == k) && !(q.1 + 1 == k && q.2.category == 2)) := fun w q hq => by
      obtain ⟨b1, v, b2, b3⟩ := am_lp_mem.mp hq
      rw [Nat.sub_zero] at b2
      have hne : k ≠ q.1 := fun e => by
        rw [← e] at b2
        by_cases hlt : k < lo.length
        · rw [List.getElem?_set_self hlt] at b2
          cases b2
        · rw [List.getElem?_eq_none (by rw [List.length_set]; omega)] at b2
          cases b2
      rw [List.getElem?_set_ne hne] at b2
      have hin : q ∈ am_lp (am_cv sb base) 0 lo1 := am_lp_mem.mpr ⟨Nat.zero_le _, v, by rw [hlo2, Nat.sub_zero, List.getElem?_set_ne hne]; exact b2, b3⟩
      rcases List.mem_cons.mp (a3 q hin) with h9 | h9
      · exact absurd (congrArg Prod.fst h9).symm hne
      · exact List.mem_cons_of_mem _ h9
    have len9 : (lo.set k none).length ≤ E.2.2.1.2.2.1 := by rw [List.length_set]; exact hl.1
    have K2 : ∀ (ls' : Array Slot) (w : Value), lv_has ls' E.2.2.1.2.2.1 ((k, w) :: (am_lp (am_cv sb base) 0 lo).filter (fun q => !(q.1 == k) && !(q.1 + 1 == k && q.2.category == 2))) → W p l e R s m args below meth c H1 locs1 cells slots (Z l c D cA sb base below args s) (F0 m r.2.2.1 ls' []) :=
      fun ls' w h9 => K ls' ⟨len9, h9.1, h9.2.1, fun q hq => h9.2.2 q (sub9 w q hq)⟩
    rw [hnx] at K2
    rcases e8 with ⟨j, e8, rfl⟩ | e8
    · rw [e8] at hdec K2
      exact lv_astore_n hx hb hdec rfl hl.2 a1 rfl (fun ls' h9 => K2 ls' (.ref q9) h9)
    · rw [e8] at hdec K2
      exact lv_astore hx hb hdec hl.2 a1 rfl (fun ls' h9 => K2 ls' (.ref q9) h9)
/-- .. what it throws is caught here -/
theorem am_B.callVC {i ci n f dc ds a : Nat} {M : am_M} {as : List Value} {vs : List Value} {Qa : Option Value → am_H → Prop} {Xa : String → am_H → Prop} (hf : am_find E.2.2.2 pc = some r) (hi : r.2.1 = .invokevirtual i) (hm : am_mfind E.2.1.2.2 i = some (i, 0, ci, n, M)) (hc : am_CtX E.1 M f dc ds (.ref a :: as) h Qa Xa)
    (hst : st = as.reverse ++ .ref a :: rest) (hn : as.length = n) (hw : am_wd rest ≤ 8) (hfit : am_fits R f M.2.2.1 = true) (ha : h[a]? = some (.inr (ci, vs))) {rc0 rs0 : Nat} (hrc : rc + dc = rc0) (hrs : rs + ds = rs0) (k : ∀ v h', Qa v h' → am_B E R (am_ZW E hh DC DS Qb) (pc + 3) lo (v.toList ++ rest) h' rc rs)
    (kx : ∀ En h', Xa En h' → am_hd E R (am_ZW E hh DC DS Qb) hh pc lo En h' rc rs) : am_B E R (am_ZW E hh DC DS Qb) pc lo st h rc0 rs0 := by
  subst hrc; subst hrs
  intro ok l D cA sb base p e s m args below meth c C H locs cells slots ls hR hS h1 h2 hl
  by_cases hP : am_P hh l c base s
  rotate_left
  · intro T hT X
    exact ⟨_, Steps.refl _, fun z => absurd z hP⟩
  obtain ⟨hm0, rfl⟩ := am_find_ok hf
  obtain ⟨hd, -, -⟩ := ok.2.2 r hm0
  obtain ⟨hq, -⟩ := am_mfind_ok hm
  obtain ⟨hcode, hdes, hini, hlink, hinst, hsel, hcl⟩ := ok.2.1.2.2 _ hq
  dsimp only at hcode hdes hini hlink hinst hsel hcl
  have C0 := C
  obtain ⟨hx, hb, hml, hret, hown, hts, hK, hlk, hnm⟩ := C
  rw [hi] at hd
  subst hst
  have hfr := am_fits_ok hfit
  obtain ⟨q, hq1, hq2⟩ : ∃ q, E.1.1[ci]? = some q ∧ q.1 = M.1.cls := by
    cases hz : E.1.1[ci]? with
    | none => rw [hz] at hcl; cases hcl
    | some q => rw [hz] at hcl; exact ⟨q, rfl, Option.some.inj hcl⟩
  obtain ⟨r', hr', cell, g1, g2, g3, -⟩ := hR.2.2.2 a _ ha
  refine am_backX (vx_runV (C := M.1.cls) (As := as.map (am_cv sb base)) (rest := rest.map (am_cv sb base)) ⟨hx, hb, hml, hown, hts⟩ (hc l hP.1 D cA sb base)
    ⟨callB_of n hts (am_good ok.1 hcode) rfl rfl rfl (hts _ hini) (hts _ hlink) hdes hfr, hts _ hinst, hts _ hsel⟩
    ⟨am_blindV, ⟨cell, g1, by rw [g3]; rfl, by rw [g2, ← hq2]; exact (hK.1 ci q hq1).2.1⟩, fun U hU hW => ⟨rfl, ⟨by rw [hU]; exact hR.moved hW.alike, hK.moved hW⟩, am_V.moved hW (fun a q1 q2 => by rw [hU]; exact hS.2.1 a q1 q2) hP.2.2⟩⟩ rfl (by rw [List.length_map]; exact hn) hl.2.1 (by simp [am_cv]) ?_ hd ⟨by omega, by omega⟩) hS
    (fun v h' H1 locs1 hQ hR1 hS1 => k v h' hQ ok l D cA sb base p e s m args below meth c C0 H1 locs1 (cells + dc) (slots + ds) ls hR1 hS1 (by omega) (by omega) hl) ?_
  · show 2 * 0 + _ ≤ 8
    rw [am_wd_cv]
    omega
  · intro En ce q9 h' H1 locs1 hXa hR1 hS1 hce hcv hcl9
    exact am_catch (kx En h' hXa) ok C0 hP hR1 hS1 hce hcv hcl9 (by omega) (by omega) hl
end XRULES
end
section
/-! TABLES of p1, by program (wip/tools/gentab.py) out of the task folder. -/
def T_TA : u_T := fun k => match k with
  | 0 => ("TraceAligner", "net", "LTraceAligner$Net;", true)
  | 1 => ("TraceAligner", "graph", "LTraceAligner$MarkingGraph;", true)
  | 2 => ("TraceAligner", "finder", "LTraceAligner$PathFinder;", true)
  | 3 => ("TraceAligner", "labelCosts", "[I", true)
  | 4 => ("TraceAligner", "buffer", "[I", true)
  | 5 => ("TraceAligner", "buffered", "I", false)
  | 6 => ("TraceAligner", "traces", "[LTraceAligner$Trace;", true)
  | 7 => ("TraceAligner", "traceCount", "I", false)
  | _ => ("TraceAligner", "firedSets", "[I", true)
def T_NT : u_T := fun k => match k with
  | 0 => ("TraceAligner$Net", "placeCount", "I", false)
  | 1 => ("TraceAligner$Net", "transitionCount", "I", false)
  | 2 => ("TraceAligner$Net", "labels", "[I", true)
  | 3 => ("TraceAligner$Net", "costs", "[I", true)
  | 4 => ("TraceAligner$Net", "inputs", "[I", true)
  | 5 => ("TraceAligner$Net", "outputs", "[I", true)
  | 6 => ("TraceAligner$Net", "firstTokens", "[I", true)
  | _ => ("TraceAligner$Net", "lastTokens", "[I", true)
def T_MG : u_T := fun k => match k with
  | 0 => ("TraceAligner$MarkingGraph", "net", "LTraceAligner$Net;", true)
  | 1 => ("TraceAligner$MarkingGraph", "codes", "[I", true)
  | 2 => ("TraceAligner$MarkingGraph", "enabledSets", "[I", true)
  | 3 => ("TraceAligner$MarkingGraph", "followers", "[I", true)
  | 4 => ("TraceAligner$MarkingGraph", "isExplored", "Z", false)
  | 5 => ("TraceAligner$MarkingGraph", "size", "I", false)
  | _ => ("TraceAligner$MarkingGraph", "lastMarking", "I", false)
def T_PF : u_T := fun k => match k with
  | 0 => ("TraceAligner$PathFinder", "net", "LTraceAligner$Net;", true)
  | 1 => ("TraceAligner$PathFinder", "graph", "LTraceAligner$MarkingGraph;", true)
  | 2 => ("TraceAligner$PathFinder", "labelCosts", "[I", true)
  | 3 => ("TraceAligner$PathFinder", "modelWeights", "[I", true)
  | _ => ("TraceAligner$PathFinder", "rest", "[[I", true)
def T_TR : u_T := fun k => match k with
  | 0 => ("TraceAligner$Trace", "labels", "[I", true)
  | 1 => ("TraceAligner$Trace", "size", "I", false)
  | 2 => ("TraceAligner$Trace", "times", "I", false)
  | 3 => ("TraceAligner$Trace", "isAligned", "Z", false)
  | 4 => ("TraceAligner$Trace", "leastCost", "I", false)
  | 5 => ("TraceAligner$Trace", "worstCost", "I", false)
  | 6 => ("TraceAligner$Trace", "moveCount", "I", false)
  | _ => ("TraceAligner$Trace", "path", "[I", false)
def T_MO : u_T := fun k => match k with
  | 0 => ("TraceAlignerModel", "thrown", "I", false)
  | 1 => ("TraceAlignerModel", "places", "I", false)
  | 2 => ("TraceAlignerModel", "transitions", "I", false)
  | 3 => ("TraceAlignerModel", "labels", "[I", true)
  | 4 => ("TraceAlignerModel", "costs", "[I", true)
  | 5 => ("TraceAlignerModel", "inputs", "[I", true)
  | 6 => ("TraceAlignerModel", "outputs", "[I", true)
  | 7 => ("TraceAlignerModel", "first", "I", false)
  | 8 => ("TraceAlignerModel", "wanted", "I", false)
  | 9 => ("TraceAlignerModel", "labelCosts", "[I", true)
  | 10 => ("TraceAlignerModel", "buffered", "I", false)
  | 11 => ("TraceAlignerModel", "buffer", "[I", true)
  | 12 => ("TraceAlignerModel", "traces", "I", false)
  | 13 => ("TraceAlignerModel", "times", "[I", true)
  | 14 => ("TraceAlignerModel", "lengths", "[I", true)
  | 15 => ("TraceAlignerModel", "events", "[I", true)
  | 16 => ("TraceAlignerModel", "isKnown", "Z", false)
  | 17 => ("TraceAlignerModel", "areTooMany", "Z", false)
  | 18 => ("TraceAlignerModel", "markings", "I", false)
  | 19 => ("TraceAlignerModel", "all", "[I", true)
  | 20 => ("TraceAlignerModel", "nexts", "[I", true)
  | 21 => ("TraceAlignerModel", "weights", "[I", true)
  | 22 => ("TraceAlignerModel", "row", "I", false)
  | 23 => ("TraceAlignerModel", "size", "I", false)
  | 24 => ("TraceAlignerModel", "moves", "I", false)
  | 25 => ("TraceAlignerModel", "kinds", "[I", true)
  | 26 => ("TraceAlignerModel", "fired", "[I", true)
  | 27 => ("TraceAlignerModel", "ahead", "[I", true)
  | _ => ("TraceAlignerModel", "end", "I", false)
abbrev am_cl : List vw_C := [("TraceAligner", T_TA, 9), ("TraceAligner$Net", T_NT, 8), ("TraceAligner$MarkingGraph", T_MG, 7), ("TraceAligner$PathFinder", T_PF, 5), ("TraceAligner$Trace", T_TR, 8), ("TraceAlignerModel", T_MO, 29)]
set_option maxRecDepth 100000 in
def am_big_0 : List Jvm.Cond := [
  (Jvm.Cond.constantLong "TraceAligner" (253 : Nat) (181 : Int64)),
  (Jvm.Cond.constantLong "TraceAligner" (259 : Nat) (31 : Int64)),
  (Jvm.Cond.constant "TraceAligner$PathFinder" (41 : Nat) (1073741824 : Int32)),
  (Jvm.Cond.constant "java/lang/Integer" (265 : Nat) (1431655765 : Int32)),
  (Jvm.Cond.constant "java/lang/Integer" (266 : Nat) (858993459 : Int32)),
  (Jvm.Cond.constant "java/lang/Integer" (267 : Nat) (252645135 : Int32)),
  (Jvm.Cond.constant "TraceAlignerModel" (146 : Nat) (2147483647 : Int32)),
  (Jvm.Cond.constantLong "TraceAlignerModel" (193 : Nat) (5611 : Int64)),
  (Jvm.Cond.constantLong "TraceAlignerModel" (195 : Nat) (31 : Int64)),
  (Jvm.Cond.initialized "TraceAlignerLaw"),
  (Jvm.Cond.initialized "TraceAligner"),
  (Jvm.Cond.initialized "TraceAligner$Net"),
  (Jvm.Cond.initialized "TraceAligner$MarkingGraph"),
  (Jvm.Cond.initialized "java/util/Arrays"),
  (Jvm.Cond.initialized "TraceAligner$PathFinder"),
  (Jvm.Cond.initialized "TraceAligner$Trace"),
  (Jvm.Cond.initialized "TraceAlignerModel"),
  (Jvm.Cond.initialized "java/lang/Throwable"),
  (Jvm.Cond.initialized "java/lang/Exception"),
  (Jvm.Cond.initialized "java/lang/RuntimeException"),
  (Jvm.Cond.initialized "java/lang/IllegalStateException"),
  (Jvm.Cond.initialized "java/lang/IllegalArgumentException"),
  (Jvm.Cond.initialized "java/lang/IndexOutOfBoundsException"),
  (Jvm.Cond.initialized "java/lang/System"),
  (Jvm.Cond.initialized "java/lang/Math"),
  (Jvm.Cond.initialized "java/lang/Integer"),
  (Jvm.Cond.classLink "TraceAlignerLaw" (8 : Nat) "TraceAligner"),
  (Jvm.Cond.instantiable "TraceAligner" (9 : Nat)),
  (Jvm.Cond.methodLink "TraceAlignerLaw" (104 : Nat) ({ cls := "TraceAligner", name := "<init>", desc := "()V" } : Jvm.MethodName)),
  (Jvm.Cond.instanceMethod ({ cls := "TraceAligner", name := "<init>", desc := "()V" } : Jvm.MethodName)),
  (Jvm.Cond.code ({ cls := "TraceAligner", name := "<init>", desc := "()V" } : Jvm.MethodName) prog_1_method_1_code (2 : Nat) (Option.none : Option Jvm.ClassFile.FieldType)),
  (Jvm.Cond.methodLink "TraceAligner" (1 : Nat) ({ cls := "java/lang/Object", name := "<init>", desc := "()V" } : Jvm.MethodName)),
  (Jvm.Cond.instanceMethod ({ cls := "java/lang/Object", name := "<init>", desc := "()V" } : Jvm.MethodName)),
  (Jvm.Cond.code ({ cls := "java/lang/Object", name := "<init>", desc := "()V" } : Jvm.MethodName) object_method_1_code (1 : Nat) (Option.none : Option Jvm.ClassFile.FieldType)),
  (Jvm.Cond.classLink "TraceAligner" (7 : Nat) "TraceAligner$Net"),
  (Jvm.Cond.instantiable "TraceAligner$Net" (8 : Nat)),
  (Jvm.Cond.instanceMethod ({ cls := "TraceAligner$Net", name := "<init>", desc := "()V" } : Jvm.MethodName)),
  (Jvm.Cond.code ({ cls := "TraceAligner$Net", name := "<init>", desc := "()V" } : Jvm.MethodName) prog_3_method_1_code (1 : Nat) (Option.none : Option Jvm.ClassFile.FieldType)),
  (Jvm.Cond.methodLink "TraceAligner$Net" (3 : Nat) ({ cls := "java/lang/Object", name := "<init>", desc := "()V" } : Jvm.MethodName)),
  (Jvm.Cond.fieldLink "TraceAligner$Net" (30 : Nat) "TraceAligner$Net" "placeCount" "I")]
set_option maxRecDepth 100000 in
def am_big_1 : List Jvm.Cond := [
  (Jvm.Cond.fieldLink "TraceAligner" (57 : Nat) "TraceAligner$Net" "placeCount" "I"),
  (Jvm.Cond.fieldLink "TraceAligner$Net" (34 : Nat) "TraceAligner$Net" "transitionCount" "I"),
  (Jvm.Cond.fieldLink "TraceAligner$MarkingGraph" (56 : Nat) "TraceAligner$Net" "transitionCount" "I"),
  (Jvm.Cond.fieldLink "TraceAligner" (84 : Nat) "TraceAligner$Net" "transitionCount" "I"),
  (Jvm.Cond.fieldLink "TraceAligner$PathFinder" (83 : Nat) "TraceAligner$Net" "transitionCount" "I"),
  (Jvm.Cond.fieldLink "TraceAligner$Net" (9 : Nat) "TraceAligner$Net" "labels" "[I"),
  (Jvm.Cond.fieldLink "TraceAligner$PathFinder" (113 : Nat) "TraceAligner$Net" "labels" "[I"),
  (Jvm.Cond.fieldLink "TraceAligner" (126 : Nat) "TraceAligner$Net" "labels" "[I"),
  (Jvm.Cond.fieldLink "TraceAligner$Net" (15 : Nat) "TraceAligner$Net" "costs" "[I"),
  (Jvm.Cond.fieldLink "TraceAligner$PathFinder" (88 : Nat) "TraceAligner$Net" "costs" "[I"),
  (Jvm.Cond.fieldLink "TraceAligner" (189 : Nat) "TraceAligner$Net" "costs" "[I"),
  (Jvm.Cond.fieldLink "TraceAligner$Net" (18 : Nat) "TraceAligner$Net" "inputs" "[I"),
  (Jvm.Cond.fieldLink "TraceAligner" (100 : Nat) "TraceAligner$Net" "inputs" "[I"),
  (Jvm.Cond.fieldLink "TraceAligner$Net" (21 : Nat) "TraceAligner$Net" "outputs" "[I"),
  (Jvm.Cond.fieldLink "TraceAligner" (103 : Nat) "TraceAligner$Net" "outputs" "[I"),
  (Jvm.Cond.fieldLink "TraceAligner$Net" (24 : Nat) "TraceAligner$Net" "firstTokens" "[I"),
  (Jvm.Cond.fieldLink "TraceAligner$MarkingGraph" (33 : Nat) "TraceAligner$Net" "firstTokens" "[I"),
  (Jvm.Cond.fieldLink "TraceAligner" (115 : Nat) "TraceAligner$Net" "firstTokens" "[I"),
  (Jvm.Cond.fieldLink "TraceAligner$Net" (27 : Nat) "TraceAligner$Net" "lastTokens" "[I"),
  (Jvm.Cond.fieldLink "TraceAligner$MarkingGraph" (49 : Nat) "TraceAligner$Net" "lastTokens" "[I"),
  (Jvm.Cond.fieldLink "TraceAligner" (112 : Nat) "TraceAligner$Net" "lastTokens" "[I"),
  (Jvm.Cond.lays "TraceAligner$Net" "TraceAligner$Net" "placeCount" "I"),
  (Jvm.Cond.lays "TraceAligner$Net" "TraceAligner$Net" "transitionCount" "I"),
  (Jvm.Cond.laysFinal "TraceAligner$Net" "TraceAligner$Net" "labels" "[I"),
  (Jvm.Cond.laysFinal "TraceAligner$Net" "TraceAligner$Net" "costs" "[I"),
  (Jvm.Cond.laysFinal "TraceAligner$Net" "TraceAligner$Net" "inputs" "[I"),
  (Jvm.Cond.laysFinal "TraceAligner$Net" "TraceAligner$Net" "outputs" "[I"),
  (Jvm.Cond.laysFinal "TraceAligner$Net" "TraceAligner$Net" "firstTokens" "[I"),
  (Jvm.Cond.laysFinal "TraceAligner$Net" "TraceAligner$Net" "lastTokens" "[I"),
  (Jvm.Cond.superclass "TraceAligner$Net" "java/lang/Object"),
  (Jvm.Cond.arrayClass Jvm.ClassFile.FieldType.int),
  (Jvm.Cond.classLink "TraceAligner" (16 : Nat) "TraceAligner$MarkingGraph"),
  (Jvm.Cond.instantiable "TraceAligner$MarkingGraph" (7 : Nat)),
  (Jvm.Cond.methodLink "TraceAligner" (18 : Nat) ({ cls := "TraceAligner$MarkingGraph", name := "<init>", desc := "(LTraceAligner$Net;)V" } : Jvm.MethodName)),
  (Jvm.Cond.instanceMethod ({ cls := "TraceAligner$MarkingGraph", name := "<init>", desc := "(LTraceAligner$Net;)V" } : Jvm.MethodName)),
  (Jvm.Cond.code ({ cls := "TraceAligner$MarkingGraph", name := "<init>", desc := "(LTraceAligner$Net;)V" } : Jvm.MethodName) prog_2_method_1_code (2 : Nat) (Option.none : Option Jvm.ClassFile.FieldType)),
  (Jvm.Cond.methodLink "TraceAligner$MarkingGraph" (3 : Nat) ({ cls := "java/lang/Object", name := "<init>", desc := "()V" } : Jvm.MethodName)),
  (Jvm.Cond.fieldLink "TraceAligner$MarkingGraph" (21 : Nat) "TraceAligner$MarkingGraph" "net" "LTraceAligner$Net;"),
  (Jvm.Cond.fieldLink "TraceAligner$MarkingGraph" (9 : Nat) "TraceAligner$MarkingGraph" "codes" "[I"),
  (Jvm.Cond.fieldLink "TraceAligner" (141 : Nat) "TraceAligner$MarkingGraph" "codes" "[I")]
set_option maxRecDepth 100000 in
def am_big_2 : List Jvm.Cond := [
  (Jvm.Cond.fieldLink "TraceAligner$MarkingGraph" (15 : Nat) "TraceAligner$MarkingGraph" "enabledSets" "[I"),
  (Jvm.Cond.fieldLink "TraceAligner" (148 : Nat) "TraceAligner$MarkingGraph" "enabledSets" "[I"),
  (Jvm.Cond.fieldLink "TraceAligner$MarkingGraph" (18 : Nat) "TraceAligner$MarkingGraph" "followers" "[I"),
  (Jvm.Cond.fieldLink "TraceAligner$MarkingGraph" (25 : Nat) "TraceAligner$MarkingGraph" "isExplored" "Z"),
  (Jvm.Cond.fieldLink "TraceAligner" (265 : Nat) "TraceAligner$MarkingGraph" "isExplored" "Z"),
  (Jvm.Cond.fieldLink "TraceAligner$MarkingGraph" (42 : Nat) "TraceAligner$MarkingGraph" "size" "I"),
  (Jvm.Cond.fieldLink "TraceAligner$PathFinder" (99 : Nat) "TraceAligner$MarkingGraph" "size" "I"),
  (Jvm.Cond.fieldLink "TraceAligner" (132 : Nat) "TraceAligner$MarkingGraph" "size" "I"),
  (Jvm.Cond.fieldLink "TraceAligner$MarkingGraph" (29 : Nat) "TraceAligner$MarkingGraph" "lastMarking" "I"),
  (Jvm.Cond.fieldLink "TraceAligner$PathFinder" (48 : Nat) "TraceAligner$MarkingGraph" "lastMarking" "I"),
  (Jvm.Cond.fieldLink "TraceAligner" (154 : Nat) "TraceAligner$MarkingGraph" "lastMarking" "I"),
  (Jvm.Cond.laysFinal "TraceAligner$MarkingGraph" "TraceAligner$MarkingGraph" "net" "LTraceAligner$Net;"),
  (Jvm.Cond.laysFinal "TraceAligner$MarkingGraph" "TraceAligner$MarkingGraph" "codes" "[I"),
  (Jvm.Cond.laysFinal "TraceAligner$MarkingGraph" "TraceAligner$MarkingGraph" "enabledSets" "[I"),
  (Jvm.Cond.laysFinal "TraceAligner$MarkingGraph" "TraceAligner$MarkingGraph" "followers" "[I"),
  (Jvm.Cond.lays "TraceAligner$MarkingGraph" "TraceAligner$MarkingGraph" "isExplored" "Z"),
  (Jvm.Cond.lays "TraceAligner$MarkingGraph" "TraceAligner$MarkingGraph" "size" "I"),
  (Jvm.Cond.lays "TraceAligner$MarkingGraph" "TraceAligner$MarkingGraph" "lastMarking" "I"),
  (Jvm.Cond.superclass "TraceAligner$MarkingGraph" "java/lang/Object"),
  (Jvm.Cond.methodLink "TraceAligner" (29 : Nat) ({ cls := "java/util/Arrays", name := "fill", desc := "([II)V" } : Jvm.MethodName)),
  (Jvm.Cond.static ({ cls := "java/util/Arrays", name := "fill", desc := "([II)V" } : Jvm.MethodName)),
  (Jvm.Cond.code ({ cls := "java/util/Arrays", name := "fill", desc := "([II)V" } : Jvm.MethodName) prog_18_method_103_code (4 : Nat) (Option.none : Option Jvm.ClassFile.FieldType)),
  (Jvm.Cond.classLink "TraceAligner" (35 : Nat) "TraceAligner$PathFinder"),
  (Jvm.Cond.instantiable "TraceAligner$PathFinder" (5 : Nat)),
  (Jvm.Cond.methodLink "TraceAligner" (37 : Nat) ({ cls := "TraceAligner$PathFinder", name := "<init>", desc := "(LTraceAligner$Net;LTraceAligner$MarkingGraph;[I)V" } : Jvm.MethodName)),
  (Jvm.Cond.instanceMethod ({ cls := "TraceAligner$PathFinder", name := "<init>", desc := "(LTraceAligner$Net;LTraceAligner$MarkingGraph;[I)V" } : Jvm.MethodName)),
  (Jvm.Cond.code ({ cls := "TraceAligner$PathFinder", name := "<init>", desc := "(LTraceAligner$Net;LTraceAligner$MarkingGraph;[I)V" } : Jvm.MethodName) prog_4_method_1_code (4 : Nat) (Option.none : Option Jvm.ClassFile.FieldType)),
  (Jvm.Cond.methodLink "TraceAligner$PathFinder" (3 : Nat) ({ cls := "java/lang/Object", name := "<init>", desc := "()V" } : Jvm.MethodName)),
  (Jvm.Cond.classLink "TraceAligner$PathFinder" (15 : Nat) "[[I"),
  (Jvm.Cond.fieldLink "TraceAligner$PathFinder" (20 : Nat) "TraceAligner$PathFinder" "net" "LTraceAligner$Net;"),
  (Jvm.Cond.fieldLink "TraceAligner$PathFinder" (24 : Nat) "TraceAligner$PathFinder" "graph" "LTraceAligner$MarkingGraph;"),
  (Jvm.Cond.fieldLink "TraceAligner$PathFinder" (28 : Nat) "TraceAligner$PathFinder" "labelCosts" "[I"),
  (Jvm.Cond.fieldLink "TraceAligner$PathFinder" (9 : Nat) "TraceAligner$PathFinder" "modelWeights" "[I"),
  (Jvm.Cond.fieldLink "TraceAligner$PathFinder" (17 : Nat) "TraceAligner$PathFinder" "rest" "[[I"),
  (Jvm.Cond.laysFinal "TraceAligner$PathFinder" "TraceAligner$PathFinder" "net" "LTraceAligner$Net;"),
  (Jvm.Cond.laysFinal "TraceAligner$PathFinder" "TraceAligner$PathFinder" "graph" "LTraceAligner$MarkingGraph;"),
  (Jvm.Cond.laysFinal "TraceAligner$PathFinder" "TraceAligner$PathFinder" "labelCosts" "[I"),
  (Jvm.Cond.laysFinal "TraceAligner$PathFinder" "TraceAligner$PathFinder" "modelWeights" "[I"),
  (Jvm.Cond.laysFinal "TraceAligner$PathFinder" "TraceAligner$PathFinder" "rest" "[[I"),
  (Jvm.Cond.superclass "TraceAligner$PathFinder" "java/lang/Object")]
set_option maxRecDepth 100000 in
def am_big_3 : List Jvm.Cond := [
  (Jvm.Cond.classLink "TraceAligner" (47 : Nat) "TraceAligner$Trace"),
  (Jvm.Cond.instantiable "TraceAligner$Trace" (8 : Nat)),
  (Jvm.Cond.instanceMethod ({ cls := "TraceAligner$Trace", name := "<init>", desc := "()V" } : Jvm.MethodName)),
  (Jvm.Cond.code ({ cls := "TraceAligner$Trace", name := "<init>", desc := "()V" } : Jvm.MethodName) prog_5_method_1_code (1 : Nat) (Option.none : Option Jvm.ClassFile.FieldType)),
  (Jvm.Cond.methodLink "TraceAligner$Trace" (3 : Nat) ({ cls := "java/lang/Object", name := "<init>", desc := "()V" } : Jvm.MethodName)),
  (Jvm.Cond.fieldLink "TraceAligner$Trace" (9 : Nat) "TraceAligner$Trace" "labels" "[I"),
  (Jvm.Cond.fieldLink "TraceAligner$PathFinder" (73 : Nat) "TraceAligner$Trace" "labels" "[I"),
  (Jvm.Cond.fieldLink "TraceAligner" (264 : Nat) "TraceAligner$Trace" "labels" "[I"),
  (Jvm.Cond.fieldLink "TraceAligner$Trace" (24 : Nat) "TraceAligner$Trace" "size" "I"),
  (Jvm.Cond.fieldLink "TraceAligner$PathFinder" (67 : Nat) "TraceAligner$Trace" "size" "I"),
  (Jvm.Cond.fieldLink "TraceAligner" (180 : Nat) "TraceAligner$Trace" "size" "I"),
  (Jvm.Cond.fieldLink "TraceAligner$Trace" (28 : Nat) "TraceAligner$Trace" "times" "I"),
  (Jvm.Cond.fieldLink "TraceAligner" (240 : Nat) "TraceAligner$Trace" "times" "I"),
  (Jvm.Cond.fieldLink "TraceAligner$Trace" (31 : Nat) "TraceAligner$Trace" "isAligned" "Z"),
  (Jvm.Cond.fieldLink "TraceAligner$PathFinder" (42 : Nat) "TraceAligner$Trace" "isAligned" "Z"),
  (Jvm.Cond.fieldLink "TraceAligner" (269 : Nat) "TraceAligner$Trace" "isAligned" "Z"),
  (Jvm.Cond.fieldLink "TraceAligner$Trace" (35 : Nat) "TraceAligner$Trace" "leastCost" "I"),
  (Jvm.Cond.fieldLink "TraceAligner$PathFinder" (61 : Nat) "TraceAligner$Trace" "leastCost" "I"),
  (Jvm.Cond.fieldLink "TraceAligner" (196 : Nat) "TraceAligner$Trace" "leastCost" "I"),
  (Jvm.Cond.fieldLink "TraceAligner$PathFinder" (70 : Nat) "TraceAligner$Trace" "worstCost" "I"),
  (Jvm.Cond.fieldLink "TraceAligner$Trace" (38 : Nat) "TraceAligner$Trace" "worstCost" "I"),
  (Jvm.Cond.fieldLink "TraceAligner" (221 : Nat) "TraceAligner$Trace" "worstCost" "I"),
  (Jvm.Cond.fieldLink "TraceAligner$PathFinder" (64 : Nat) "TraceAligner$Trace" "moveCount" "I"),
  (Jvm.Cond.fieldLink "TraceAligner$Trace" (41 : Nat) "TraceAligner$Trace" "moveCount" "I"),
  (Jvm.Cond.fieldLink "TraceAligner" (199 : Nat) "TraceAligner$Trace" "moveCount" "I"),
  (Jvm.Cond.fieldLink "TraceAligner$Trace" (15 : Nat) "TraceAligner$Trace" "path" "[I"),
  (Jvm.Cond.fieldLink "TraceAligner$PathFinder" (121 : Nat) "TraceAligner$Trace" "path" "[I"),
  (Jvm.Cond.fieldLink "TraceAligner" (204 : Nat) "TraceAligner$Trace" "path" "[I"),
  (Jvm.Cond.laysFinal "TraceAligner$Trace" "TraceAligner$Trace" "labels" "[I"),
  (Jvm.Cond.lays "TraceAligner$Trace" "TraceAligner$Trace" "size" "I"),
  (Jvm.Cond.lays "TraceAligner$Trace" "TraceAligner$Trace" "times" "I"),
  (Jvm.Cond.lays "TraceAligner$Trace" "TraceAligner$Trace" "isAligned" "Z"),
  (Jvm.Cond.lays "TraceAligner$Trace" "TraceAligner$Trace" "leastCost" "I"),
  (Jvm.Cond.lays "TraceAligner$Trace" "TraceAligner$Trace" "worstCost" "I"),
  (Jvm.Cond.lays "TraceAligner$Trace" "TraceAligner$Trace" "moveCount" "I"),
  (Jvm.Cond.lays "TraceAligner$Trace" "TraceAligner$Trace" "path" "[I"),
  (Jvm.Cond.superclass "TraceAligner$Trace" "java/lang/Object"),
  (Jvm.Cond.fieldLink "TraceAligner" (10 : Nat) "TraceAligner" "net" "LTraceAligner$Net;"),
  (Jvm.Cond.fieldLink "TraceAligner" (21 : Nat) "TraceAligner" "graph" "LTraceAligner$MarkingGraph;"),
  (Jvm.Cond.fieldLink "TraceAligner" (40 : Nat) "TraceAligner" "finder" "LTraceAligner$PathFinder;")]
set_option maxRecDepth 100000 in
def am_big_4 : List Jvm.Cond := [
  (Jvm.Cond.fieldLink "TraceAligner" (25 : Nat) "TraceAligner" "labelCosts" "[I"),
  (Jvm.Cond.fieldLink "TraceAligner" (44 : Nat) "TraceAligner" "buffer" "[I"),
  (Jvm.Cond.fieldLink "TraceAligner" (162 : Nat) "TraceAligner" "buffered" "I"),
  (Jvm.Cond.fieldLink "TraceAligner" (49 : Nat) "TraceAligner" "traces" "[LTraceAligner$Trace;"),
  (Jvm.Cond.fieldLink "TraceAligner" (118 : Nat) "TraceAligner" "traceCount" "I"),
  (Jvm.Cond.fieldLink "TraceAligner" (54 : Nat) "TraceAligner" "firedSets" "[I"),
  (Jvm.Cond.laysFinal "TraceAligner" "TraceAligner" "net" "LTraceAligner$Net;"),
  (Jvm.Cond.laysFinal "TraceAligner" "TraceAligner" "graph" "LTraceAligner$MarkingGraph;"),
  (Jvm.Cond.laysFinal "TraceAligner" "TraceAligner" "finder" "LTraceAligner$PathFinder;"),
  (Jvm.Cond.laysFinal "TraceAligner" "TraceAligner" "labelCosts" "[I"),
  (Jvm.Cond.laysFinal "TraceAligner" "TraceAligner" "buffer" "[I"),
  (Jvm.Cond.lays "TraceAligner" "TraceAligner" "buffered" "I"),
  (Jvm.Cond.laysFinal "TraceAligner" "TraceAligner" "traces" "[LTraceAligner$Trace;"),
  (Jvm.Cond.lays "TraceAligner" "TraceAligner" "traceCount" "I"),
  (Jvm.Cond.laysFinal "TraceAligner" "TraceAligner" "firedSets" "[I"),
  (Jvm.Cond.superclass "TraceAligner" "java/lang/Object"),
  (Jvm.Cond.methodLink "TraceAlignerLaw" (135 : Nat) ({ cls := "TraceAligner", name := "markings", desc := "()I" } : Jvm.MethodName)),
  (Jvm.Cond.instanceMethod ({ cls := "TraceAligner", name := "markings", desc := "()I" } : Jvm.MethodName)),
  (Jvm.Cond.selects "TraceAligner" ({ cls := "TraceAligner", name := "markings", desc := "()I" } : Jvm.MethodName) ({ cls := "TraceAligner", name := "markings", desc := "()I" } : Jvm.MethodName)),
  (Jvm.Cond.code ({ cls := "TraceAligner", name := "markings", desc := "()I" } : Jvm.MethodName) prog_1_method_8_code (1 : Nat) (Option.some Jvm.ClassFile.FieldType.int)),
  (Jvm.Cond.methodLink "TraceAligner" (129 : Nat) ({ cls := "TraceAligner$MarkingGraph", name := "explore", desc := "()V" } : Jvm.MethodName)),
  (Jvm.Cond.instanceMethod ({ cls := "TraceAligner$MarkingGraph", name := "explore", desc := "()V" } : Jvm.MethodName)),
  (Jvm.Cond.selects "TraceAligner$MarkingGraph" ({ cls := "TraceAligner$MarkingGraph", name := "explore", desc := "()V" } : Jvm.MethodName) ({ cls := "TraceAligner$MarkingGraph", name := "explore", desc := "()V" } : Jvm.MethodName)),
  (Jvm.Cond.code ({ cls := "TraceAligner$MarkingGraph", name := "explore", desc := "()V" } : Jvm.MethodName) prog_2_method_2_code (2 : Nat) (Option.none : Option Jvm.ClassFile.FieldType)),
  (Jvm.Cond.methodLink "TraceAligner$MarkingGraph" (38 : Nat) ({ cls := "TraceAligner$Net", name := "codeOf", desc := "([I)I" } : Jvm.MethodName)),
  (Jvm.Cond.instanceMethod ({ cls := "TraceAligner$Net", name := "codeOf", desc := "([I)I" } : Jvm.MethodName)),
  (Jvm.Cond.selects "TraceAligner$Net" ({ cls := "TraceAligner$Net", name := "codeOf", desc := "([I)I" } : Jvm.MethodName) ({ cls := "TraceAligner$Net", name := "codeOf", desc := "([I)I" } : Jvm.MethodName)),
  (Jvm.Cond.code ({ cls := "TraceAligner$Net", name := "codeOf", desc := "([I)I" } : Jvm.MethodName) prog_3_method_4_code (4 : Nat) (Option.some Jvm.ClassFile.FieldType.int)),
  (Jvm.Cond.methodLink "TraceAligner$MarkingGraph" (45 : Nat) ({ cls := "TraceAligner$MarkingGraph", name := "followAll", desc := "(I)Z" } : Jvm.MethodName)),
  (Jvm.Cond.instanceMethod ({ cls := "TraceAligner$MarkingGraph", name := "followAll", desc := "(I)Z" } : Jvm.MethodName)),
  (Jvm.Cond.selects "TraceAligner$MarkingGraph" ({ cls := "TraceAligner$MarkingGraph", name := "followAll", desc := "(I)Z" } : Jvm.MethodName) ({ cls := "TraceAligner$MarkingGraph", name := "followAll", desc := "(I)Z" } : Jvm.MethodName)),
  (Jvm.Cond.code ({ cls := "TraceAligner$MarkingGraph", name := "followAll", desc := "(I)Z" } : Jvm.MethodName) prog_2_method_3_code (5 : Nat) (Option.some Jvm.ClassFile.FieldType.boolean)),
  (Jvm.Cond.methodLink "TraceAligner$MarkingGraph" (59 : Nat) ({ cls := "TraceAligner$Net", name := "codeBehind", desc := "(II)I" } : Jvm.MethodName)),
  (Jvm.Cond.instanceMethod ({ cls := "TraceAligner$Net", name := "codeBehind", desc := "(II)I" } : Jvm.MethodName)),
  (Jvm.Cond.selects "TraceAligner$Net" ({ cls := "TraceAligner$Net", name := "codeBehind", desc := "(II)I" } : Jvm.MethodName) ({ cls := "TraceAligner$Net", name := "codeBehind", desc := "(II)I" } : Jvm.MethodName)),
  (Jvm.Cond.code ({ cls := "TraceAligner$Net", name := "codeBehind", desc := "(II)I" } : Jvm.MethodName) prog_3_method_5_code (8 : Nat) (Option.some Jvm.ClassFile.FieldType.int)),
  (Jvm.Cond.static ({ cls := "TraceAligner", name := "isIn", desc := "(II)Z" } : Jvm.MethodName)),
  (Jvm.Cond.code ({ cls := "TraceAligner", name := "isIn", desc := "(II)Z" } : Jvm.MethodName) prog_1_method_46_code (2 : Nat) (Option.some Jvm.ClassFile.FieldType.boolean)),
  (Jvm.Cond.static ({ cls := "TraceAligner", name := "tokensIn", desc := "(II)I" } : Jvm.MethodName)),
  (Jvm.Cond.code ({ cls := "TraceAligner", name := "tokensIn", desc := "(II)I" } : Jvm.MethodName) prog_1_method_47_code (2 : Nat) (Option.some Jvm.ClassFile.FieldType.int))]
set_option maxRecDepth 100000 in
def am_big_5 : List Jvm.Cond := [
  (Jvm.Cond.methodLink "TraceAligner$MarkingGraph" (63 : Nat) ({ cls := "TraceAligner$MarkingGraph", name := "numberOrAppend", desc := "(I)I" } : Jvm.MethodName)),
  (Jvm.Cond.instanceMethod ({ cls := "TraceAligner$MarkingGraph", name := "numberOrAppend", desc := "(I)I" } : Jvm.MethodName)),
  (Jvm.Cond.selects "TraceAligner$MarkingGraph" ({ cls := "TraceAligner$MarkingGraph", name := "numberOrAppend", desc := "(I)I" } : Jvm.MethodName) ({ cls := "TraceAligner$MarkingGraph", name := "numberOrAppend", desc := "(I)I" } : Jvm.MethodName)),
  (Jvm.Cond.code ({ cls := "TraceAligner$MarkingGraph", name := "numberOrAppend", desc := "(I)I" } : Jvm.MethodName) prog_2_method_5_code (3 : Nat) (Option.some Jvm.ClassFile.FieldType.int)),
  (Jvm.Cond.methodLink "TraceAligner$MarkingGraph" (52 : Nat) ({ cls := "TraceAligner$MarkingGraph", name := "numberOf", desc := "(I)I" } : Jvm.MethodName)),
  (Jvm.Cond.instanceMethod ({ cls := "TraceAligner$MarkingGraph", name := "numberOf", desc := "(I)I" } : Jvm.MethodName)),
  (Jvm.Cond.selects "TraceAligner$MarkingGraph" ({ cls := "TraceAligner$MarkingGraph", name := "numberOf", desc := "(I)I" } : Jvm.MethodName) ({ cls := "TraceAligner$MarkingGraph", name := "numberOf", desc := "(I)I" } : Jvm.MethodName)),
  (Jvm.Cond.code ({ cls := "TraceAligner$MarkingGraph", name := "numberOf", desc := "(I)I" } : Jvm.MethodName) prog_2_method_4_code (3 : Nat) (Option.some Jvm.ClassFile.FieldType.int)),
  (Jvm.Cond.methodLink "TraceAlignerLaw" (206 : Nat) ({ cls := "TraceAligner", name := "digest", desc := "()J" } : Jvm.MethodName)),
  (Jvm.Cond.instanceMethod ({ cls := "TraceAligner", name := "digest", desc := "()J" } : Jvm.MethodName)),
  (Jvm.Cond.selects "TraceAligner" ({ cls := "TraceAligner", name := "digest", desc := "()J" } : Jvm.MethodName) ({ cls := "TraceAligner", name := "digest", desc := "()J" } : Jvm.MethodName)),
  (Jvm.Cond.code ({ cls := "TraceAligner", name := "digest", desc := "()J" } : Jvm.MethodName) prog_1_method_30_code (4 : Nat) (Option.some Jvm.ClassFile.FieldType.long)),
  (Jvm.Cond.methodLink "TraceAligner" (255 : Nat) ({ cls := "TraceAligner", name := "digestOfNet", desc := "(J)J" } : Jvm.MethodName)),
  (Jvm.Cond.instanceMethod ({ cls := "TraceAligner", name := "digestOfNet", desc := "(J)J" } : Jvm.MethodName)),
  (Jvm.Cond.code ({ cls := "TraceAligner", name := "digestOfNet", desc := "(J)J" } : Jvm.MethodName) prog_1_method_31_code (6 : Nat) (Option.some Jvm.ClassFile.FieldType.long)),
  (Jvm.Cond.methodLink "TraceAligner" (261 : Nat) ({ cls := "TraceAligner", name := "digestOfTraces", desc := "(J)J" } : Jvm.MethodName)),
  (Jvm.Cond.instanceMethod ({ cls := "TraceAligner", name := "digestOfTraces", desc := "(J)J" } : Jvm.MethodName)),
  (Jvm.Cond.code ({ cls := "TraceAligner", name := "digestOfTraces", desc := "(J)J" } : Jvm.MethodName) prog_1_method_32_code (8 : Nat) (Option.some Jvm.ClassFile.FieldType.long)),
  (Jvm.Cond.methodLink "TraceAligner" (236 : Nat) ({ cls := "TraceAligner$PathFinder", name := "align", desc := "(LTraceAligner$Trace;)V" } : Jvm.MethodName)),
  (Jvm.Cond.instanceMethod ({ cls := "TraceAligner$PathFinder", name := "align", desc := "(LTraceAligner$Trace;)V" } : Jvm.MethodName)),
  (Jvm.Cond.selects "TraceAligner$PathFinder" ({ cls := "TraceAligner$PathFinder", name := "align", desc := "(LTraceAligner$Trace;)V" } : Jvm.MethodName) ({ cls := "TraceAligner$PathFinder", name := "align", desc := "(LTraceAligner$Trace;)V" } : Jvm.MethodName)),
  (Jvm.Cond.code ({ cls := "TraceAligner$PathFinder", name := "align", desc := "(LTraceAligner$Trace;)V" } : Jvm.MethodName) prog_4_method_3_code (3 : Nat) (Option.none : Option Jvm.ClassFile.FieldType)),
  (Jvm.Cond.methodLink "TraceAligner$PathFinder" (54 : Nat) ({ cls := "TraceAligner$Trace", name := "setNoAlignment", desc := "()V" } : Jvm.MethodName)),
  (Jvm.Cond.instanceMethod ({ cls := "TraceAligner$Trace", name := "setNoAlignment", desc := "()V" } : Jvm.MethodName)),
  (Jvm.Cond.selects "TraceAligner$Trace" ({ cls := "TraceAligner$Trace", name := "setNoAlignment", desc := "()V" } : Jvm.MethodName) ({ cls := "TraceAligner$Trace", name := "setNoAlignment", desc := "()V" } : Jvm.MethodName)),
  (Jvm.Cond.code ({ cls := "TraceAligner$Trace", name := "setNoAlignment", desc := "()V" } : Jvm.MethodName) prog_5_method_4_code (1 : Nat) (Option.none : Option Jvm.ClassFile.FieldType)),
  (Jvm.Cond.methodLink "TraceAligner$PathFinder" (57 : Nat) ({ cls := "TraceAligner$PathFinder", name := "weighAll", desc := "(LTraceAligner$Trace;)V" } : Jvm.MethodName)),
  (Jvm.Cond.instanceMethod ({ cls := "TraceAligner$PathFinder", name := "weighAll", desc := "(LTraceAligner$Trace;)V" } : Jvm.MethodName)),
  (Jvm.Cond.selects "TraceAligner$PathFinder" ({ cls := "TraceAligner$PathFinder", name := "weighAll", desc := "(LTraceAligner$Trace;)V" } : Jvm.MethodName) ({ cls := "TraceAligner$PathFinder", name := "weighAll", desc := "(LTraceAligner$Trace;)V" } : Jvm.MethodName)),
  (Jvm.Cond.code ({ cls := "TraceAligner$PathFinder", name := "weighAll", desc := "(LTraceAligner$Trace;)V" } : Jvm.MethodName) prog_4_method_4_code (3 : Nat) (Option.none : Option Jvm.ClassFile.FieldType)),
  (Jvm.Cond.methodLink "TraceAligner$PathFinder" (37 : Nat) ({ cls := "TraceAligner$PathFinder", name := "weighEnd", desc := "([I)V" } : Jvm.MethodName)),
  (Jvm.Cond.instanceMethod ({ cls := "TraceAligner$PathFinder", name := "weighEnd", desc := "([I)V" } : Jvm.MethodName)),
  (Jvm.Cond.selects "TraceAligner$PathFinder" ({ cls := "TraceAligner$PathFinder", name := "weighEnd", desc := "([I)V" } : Jvm.MethodName) ({ cls := "TraceAligner$PathFinder", name := "weighEnd", desc := "([I)V" } : Jvm.MethodName)),
  (Jvm.Cond.code ({ cls := "TraceAligner$PathFinder", name := "weighEnd", desc := "([I)V" } : Jvm.MethodName) prog_4_method_5_code (2 : Nat) (Option.none : Option Jvm.ClassFile.FieldType)),
  (Jvm.Cond.methodLink "TraceAligner$PathFinder" (31 : Nat) ({ cls := "java/util/Arrays", name := "fill", desc := "([II)V" } : Jvm.MethodName)),
  (Jvm.Cond.methodLink "TraceAligner$PathFinder" (95 : Nat) ({ cls := "TraceAligner$MarkingGraph", name := "relax", desc := "([I[I)V" } : Jvm.MethodName)),
  (Jvm.Cond.instanceMethod ({ cls := "TraceAligner$MarkingGraph", name := "relax", desc := "([I[I)V" } : Jvm.MethodName)),
  (Jvm.Cond.selects "TraceAligner$MarkingGraph" ({ cls := "TraceAligner$MarkingGraph", name := "relax", desc := "([I[I)V" } : Jvm.MethodName) ({ cls := "TraceAligner$MarkingGraph", name := "relax", desc := "([I[I)V" } : Jvm.MethodName)),
  (Jvm.Cond.code ({ cls := "TraceAligner$MarkingGraph", name := "relax", desc := "([I[I)V" } : Jvm.MethodName) prog_2_method_7_code (4 : Nat) (Option.none : Option Jvm.ClassFile.FieldType)),
  (Jvm.Cond.methodLink "TraceAligner$MarkingGraph" (66 : Nat) ({ cls := "TraceAligner$MarkingGraph", name := "relaxOnce", desc := "([I[I)Z" } : Jvm.MethodName))]
set_option maxRecDepth 100000 in
def am_big_6 : List Jvm.Cond := [
  (Jvm.Cond.instanceMethod ({ cls := "TraceAligner$MarkingGraph", name := "relaxOnce", desc := "([I[I)Z" } : Jvm.MethodName)),
  (Jvm.Cond.selects "TraceAligner$MarkingGraph" ({ cls := "TraceAligner$MarkingGraph", name := "relaxOnce", desc := "([I[I)Z" } : Jvm.MethodName) ({ cls := "TraceAligner$MarkingGraph", name := "relaxOnce", desc := "([I[I)Z" } : Jvm.MethodName)),
  (Jvm.Cond.code ({ cls := "TraceAligner$MarkingGraph", name := "relaxOnce", desc := "([I[I)Z" } : Jvm.MethodName) prog_2_method_8_code (7 : Nat) (Option.some Jvm.ClassFile.FieldType.boolean)),
  (Jvm.Cond.methodLink "TraceAligner$PathFinder" (91 : Nat) ({ cls := "TraceAligner$PathFinder", name := "weighEvent", desc := "([I[II)V" } : Jvm.MethodName)),
  (Jvm.Cond.instanceMethod ({ cls := "TraceAligner$PathFinder", name := "weighEvent", desc := "([I[II)V" } : Jvm.MethodName)),
  (Jvm.Cond.selects "TraceAligner$PathFinder" ({ cls := "TraceAligner$PathFinder", name := "weighEvent", desc := "([I[II)V" } : Jvm.MethodName) ({ cls := "TraceAligner$PathFinder", name := "weighEvent", desc := "([I[II)V" } : Jvm.MethodName)),
  (Jvm.Cond.code ({ cls := "TraceAligner$PathFinder", name := "weighEvent", desc := "([I[II)V" } : Jvm.MethodName) prog_4_method_6_code (8 : Nat) (Option.none : Option Jvm.ClassFile.FieldType)),
  (Jvm.Cond.methodLink "TraceAligner$PathFinder" (100 : Nat) ({ cls := "TraceAligner$PathFinder", name := "traceWeight", desc := "(I)I" } : Jvm.MethodName)),
  (Jvm.Cond.instanceMethod ({ cls := "TraceAligner$PathFinder", name := "traceWeight", desc := "(I)I" } : Jvm.MethodName)),
  (Jvm.Cond.selects "TraceAligner$PathFinder" ({ cls := "TraceAligner$PathFinder", name := "traceWeight", desc := "(I)I" } : Jvm.MethodName) ({ cls := "TraceAligner$PathFinder", name := "traceWeight", desc := "(I)I" } : Jvm.MethodName)),
  (Jvm.Cond.code ({ cls := "TraceAligner$PathFinder", name := "traceWeight", desc := "(I)I" } : Jvm.MethodName) prog_4_method_7_code (2 : Nat) (Option.some Jvm.ClassFile.FieldType.int)),
  (Jvm.Cond.methodLink "TraceAligner$PathFinder" (104 : Nat) ({ cls := "java/lang/Math", name := "min", desc := "(II)I" } : Jvm.MethodName)),
  (Jvm.Cond.static ({ cls := "java/lang/Math", name := "min", desc := "(II)I" } : Jvm.MethodName)),
  (Jvm.Cond.code ({ cls := "java/lang/Math", name := "min", desc := "(II)I" } : Jvm.MethodName) prog_13_method_69_code (2 : Nat) (Option.some Jvm.ClassFile.FieldType.int)),
  (Jvm.Cond.methodLink "TraceAligner$PathFinder" (110 : Nat) ({ cls := "TraceAligner$MarkingGraph", name := "follower", desc := "(II)I" } : Jvm.MethodName)),
  (Jvm.Cond.instanceMethod ({ cls := "TraceAligner$MarkingGraph", name := "follower", desc := "(II)I" } : Jvm.MethodName)),
  (Jvm.Cond.selects "TraceAligner$MarkingGraph" ({ cls := "TraceAligner$MarkingGraph", name := "follower", desc := "(II)I" } : Jvm.MethodName) ({ cls := "TraceAligner$MarkingGraph", name := "follower", desc := "(II)I" } : Jvm.MethodName)),
  (Jvm.Cond.code ({ cls := "TraceAligner$MarkingGraph", name := "follower", desc := "(II)I" } : Jvm.MethodName) prog_2_method_6_code (3 : Nat) (Option.some Jvm.ClassFile.FieldType.int)),
  (Jvm.Cond.methodLink "TraceAligner$PathFinder" (76 : Nat) ({ cls := "TraceAligner$Trace", name := "makeRoom", desc := "(I)V" } : Jvm.MethodName)),
  (Jvm.Cond.instanceMethod ({ cls := "TraceAligner$Trace", name := "makeRoom", desc := "(I)V" } : Jvm.MethodName)),
  (Jvm.Cond.selects "TraceAligner$Trace" ({ cls := "TraceAligner$Trace", name := "makeRoom", desc := "(I)V" } : Jvm.MethodName) ({ cls := "TraceAligner$Trace", name := "makeRoom", desc := "(I)V" } : Jvm.MethodName)),
  (Jvm.Cond.code ({ cls := "TraceAligner$Trace", name := "makeRoom", desc := "(I)V" } : Jvm.MethodName) prog_5_method_5_code (2 : Nat) (Option.none : Option Jvm.ClassFile.FieldType)),
  (Jvm.Cond.methodLink "TraceAligner$Trace" (44 : Nat) ({ cls := "java/lang/Math", name := "max", desc := "(II)I" } : Jvm.MethodName)),
  (Jvm.Cond.static ({ cls := "java/lang/Math", name := "max", desc := "(II)I" } : Jvm.MethodName)),
  (Jvm.Cond.code ({ cls := "java/lang/Math", name := "max", desc := "(II)I" } : Jvm.MethodName) prog_13_method_65_code (2 : Nat) (Option.some Jvm.ClassFile.FieldType.int)),
  (Jvm.Cond.methodLink "TraceAligner$PathFinder" (80 : Nat) ({ cls := "TraceAligner$PathFinder", name := "walk", desc := "(LTraceAligner$Trace;)V" } : Jvm.MethodName)),
  (Jvm.Cond.instanceMethod ({ cls := "TraceAligner$PathFinder", name := "walk", desc := "(LTraceAligner$Trace;)V" } : Jvm.MethodName)),
  (Jvm.Cond.selects "TraceAligner$PathFinder" ({ cls := "TraceAligner$PathFinder", name := "walk", desc := "(LTraceAligner$Trace;)V" } : Jvm.MethodName) ({ cls := "TraceAligner$PathFinder", name := "walk", desc := "(LTraceAligner$Trace;)V" } : Jvm.MethodName)),
  (Jvm.Cond.code ({ cls := "TraceAligner$PathFinder", name := "walk", desc := "(LTraceAligner$Trace;)V" } : Jvm.MethodName) prog_4_method_8_code (7 : Nat) (Option.none : Option Jvm.ClassFile.FieldType)),
  (Jvm.Cond.methodLink "TraceAligner$PathFinder" (114 : Nat) ({ cls := "TraceAligner$PathFinder", name := "bestMove", desc := "(LTraceAligner$Trace;II)I" } : Jvm.MethodName)),
  (Jvm.Cond.instanceMethod ({ cls := "TraceAligner$PathFinder", name := "bestMove", desc := "(LTraceAligner$Trace;II)I" } : Jvm.MethodName)),
  (Jvm.Cond.selects "TraceAligner$PathFinder" ({ cls := "TraceAligner$PathFinder", name := "bestMove", desc := "(LTraceAligner$Trace;II)I" } : Jvm.MethodName) ({ cls := "TraceAligner$PathFinder", name := "bestMove", desc := "(LTraceAligner$Trace;II)I" } : Jvm.MethodName)),
  (Jvm.Cond.code ({ cls := "TraceAligner$PathFinder", name := "bestMove", desc := "(LTraceAligner$Trace;II)I" } : Jvm.MethodName) prog_4_method_9_code (9 : Nat) (Option.some Jvm.ClassFile.FieldType.int)),
  (Jvm.Cond.static ({ cls := "TraceAligner", name := "packMove", desc := "(IIII)I" } : Jvm.MethodName)),
  (Jvm.Cond.code ({ cls := "TraceAligner", name := "packMove", desc := "(IIII)I" } : Jvm.MethodName) prog_1_method_48_code (4 : Nat) (Option.some Jvm.ClassFile.FieldType.int)),
  (Jvm.Cond.methodLink "TraceAligner$PathFinder" (131 : Nat) ({ cls := "TraceAligner$PathFinder", name := "bestModelTransition", desc := "([II)I" } : Jvm.MethodName)),
  (Jvm.Cond.instanceMethod ({ cls := "TraceAligner$PathFinder", name := "bestModelTransition", desc := "([II)I" } : Jvm.MethodName)),
  (Jvm.Cond.selects "TraceAligner$PathFinder" ({ cls := "TraceAligner$PathFinder", name := "bestModelTransition", desc := "([II)I" } : Jvm.MethodName) ({ cls := "TraceAligner$PathFinder", name := "bestModelTransition", desc := "([II)I" } : Jvm.MethodName)),
  (Jvm.Cond.code ({ cls := "TraceAligner$PathFinder", name := "bestModelTransition", desc := "([II)I" } : Jvm.MethodName) prog_4_method_10_code (5 : Nat) (Option.some Jvm.ClassFile.FieldType.int)),
  (Jvm.Cond.static ({ cls := "TraceAligner", name := "transitionOf", desc := "(I)I" } : Jvm.MethodName))]
set_option maxRecDepth 100000 in
def am_big_7 : List Jvm.Cond := [
  (Jvm.Cond.code ({ cls := "TraceAligner", name := "transitionOf", desc := "(I)I" } : Jvm.MethodName) prog_1_method_50_code (1 : Nat) (Option.some Jvm.ClassFile.FieldType.int)),
  (Jvm.Cond.static ({ cls := "TraceAligner", name := "labelOf", desc := "(I)I" } : Jvm.MethodName)),
  (Jvm.Cond.code ({ cls := "TraceAligner", name := "labelOf", desc := "(I)I" } : Jvm.MethodName) prog_1_method_51_code (1 : Nat) (Option.some Jvm.ClassFile.FieldType.int)),
  (Jvm.Cond.methodLink "TraceAlignerLaw" (108 : Nat) ({ cls := "TraceAlignerLaw", name := "addPlace", desc := "(LTraceAligner;[J)I" } : Jvm.MethodName)),
  (Jvm.Cond.static ({ cls := "TraceAlignerLaw", name := "addPlace", desc := "(LTraceAligner;[J)I" } : Jvm.MethodName)),
  (Jvm.Cond.codeWith ({ cls := "TraceAlignerLaw", name := "addPlace", desc := "(LTraceAligner;[J)I" } : Jvm.MethodName) method_3_code (3 : Nat) (Option.some Jvm.ClassFile.FieldType.int) [((0 : Nat), (8 : Nat), (11 : Nat), (13 : Nat))]),
  (Jvm.Cond.classLink "TraceAlignerLaw" (13 : Nat) "java/lang/IllegalStateException"),
  (Jvm.Cond.methodLink "TraceAlignerLaw" (7 : Nat) ({ cls := "TraceAligner", name := "addPlace", desc := "()I" } : Jvm.MethodName)),
  (Jvm.Cond.instanceMethod ({ cls := "TraceAligner", name := "addPlace", desc := "()I" } : Jvm.MethodName)),
  (Jvm.Cond.selects "TraceAligner" ({ cls := "TraceAligner", name := "addPlace", desc := "()I" } : Jvm.MethodName) ({ cls := "TraceAligner", name := "addPlace", desc := "()I" } : Jvm.MethodName)),
  (Jvm.Cond.code ({ cls := "TraceAligner", name := "addPlace", desc := "()I" } : Jvm.MethodName) prog_1_method_2_code (1 : Nat) (Option.some Jvm.ClassFile.FieldType.int)),
  (Jvm.Cond.classLink "TraceAligner" (61 : Nat) "java/lang/IllegalStateException"),
  (Jvm.Cond.instantiable "java/lang/IllegalStateException" (6 : Nat)),
  (Jvm.Cond.selects "java/lang/IllegalStateException" ({ cls := "java/lang/Throwable", name := "fillInStackTrace", desc := "(I)Ljava/lang/Throwable;" } : Jvm.MethodName) ({ cls := "java/lang/Throwable", name := "fillInStackTrace", desc := "(I)Ljava/lang/Throwable;" } : Jvm.MethodName)),
  (Jvm.Cond.selects "java/lang/IllegalStateException" ({ cls := "java/lang/Throwable", name := "fillInStackTrace", desc := "()Ljava/lang/Throwable;" } : Jvm.MethodName) ({ cls := "java/lang/Throwable", name := "fillInStackTrace", desc := "()Ljava/lang/Throwable;" } : Jvm.MethodName)),
  (Jvm.Cond.lays "java/lang/IllegalStateException" "java/lang/Throwable" "cause" "Ljava/lang/Throwable;"),
  (Jvm.Cond.lays "java/lang/Throwable" "java/lang/Throwable" "cause" "Ljava/lang/Throwable;"),
  (Jvm.Cond.lays "java/lang/IllegalStateException" "java/lang/Throwable" "stackTrace" "[Ljava/lang/StackTraceElement;"),
  (Jvm.Cond.lays "java/lang/Throwable" "java/lang/Throwable" "stackTrace" "[Ljava/lang/StackTraceElement;"),
  (Jvm.Cond.lays "java/lang/IllegalStateException" "java/lang/Throwable" "suppressedExceptions" "Ljava/util/List;"),
  (Jvm.Cond.lays "java/lang/Throwable" "java/lang/Throwable" "suppressedExceptions" "Ljava/util/List;"),
  (Jvm.Cond.lays "java/lang/IllegalStateException" "java/lang/Throwable" "detailMessage" "Ljava/lang/String;"),
  (Jvm.Cond.lays "java/lang/Throwable" "java/lang/Throwable" "detailMessage" "Ljava/lang/String;"),
  (Jvm.Cond.lays "java/lang/IllegalStateException" "java/lang/Throwable" "backtrace" "Ljava/lang/Object;"),
  (Jvm.Cond.lays "java/lang/Throwable" "java/lang/Throwable" "backtrace" "Ljava/lang/Object;"),
  (Jvm.Cond.fieldLink "java/lang/Throwable" (198 : Nat) "java/lang/Throwable" "backtrace" "Ljava/lang/Object;"),
  (Jvm.Cond.superclass "java/lang/Throwable" "java/lang/Object"),
  (Jvm.Cond.instanceMethod ({ cls := "java/lang/Throwable", name := "<init>", desc := "()V" } : Jvm.MethodName)),
  (Jvm.Cond.code ({ cls := "java/lang/Throwable", name := "<init>", desc := "()V" } : Jvm.MethodName) prog_17_method_1_code (1 : Nat) (Option.none : Option Jvm.ClassFile.FieldType)),
  (Jvm.Cond.methodLink "java/lang/Throwable" (1 : Nat) ({ cls := "java/lang/Object", name := "<init>", desc := "()V" } : Jvm.MethodName)),
  (Jvm.Cond.fieldLink "java/lang/Throwable" (13 : Nat) "java/lang/Throwable" "UNASSIGNED_STACK" "[Ljava/lang/StackTraceElement;"),
  (Jvm.Cond.fieldLink "java/lang/Throwable" (20 : Nat) "java/lang/Throwable" "SUPPRESSED_SENTINEL" "Ljava/util/List;"),
  (Jvm.Cond.methodLink "java/lang/Throwable" (27 : Nat) ({ cls := "java/lang/Throwable", name := "fillInStackTrace", desc := "()Ljava/lang/Throwable;" } : Jvm.MethodName)),
  (Jvm.Cond.instanceMethod ({ cls := "java/lang/Throwable", name := "fillInStackTrace", desc := "()Ljava/lang/Throwable;" } : Jvm.MethodName)),
  (Jvm.Cond.sameMethod "java/lang/Throwable" "java/lang/Throwable" "fillInStackTrace" "()Ljava/lang/Throwable;"),
  (Jvm.Cond.selects "java/lang/IllegalArgumentException" ({ cls := "java/lang/Throwable", name := "fillInStackTrace", desc := "()Ljava/lang/Throwable;" } : Jvm.MethodName) ({ cls := "java/lang/Throwable", name := "fillInStackTrace", desc := "()Ljava/lang/Throwable;" } : Jvm.MethodName)),
  (Jvm.Cond.selects "java/lang/IndexOutOfBoundsException" ({ cls := "java/lang/Throwable", name := "fillInStackTrace", desc := "()Ljava/lang/Throwable;" } : Jvm.MethodName) ({ cls := "java/lang/Throwable", name := "fillInStackTrace", desc := "()Ljava/lang/Throwable;" } : Jvm.MethodName)),
  (Jvm.Cond.codeSync ({ cls := "java/lang/Throwable", name := "fillInStackTrace", desc := "()Ljava/lang/Throwable;" } : Jvm.MethodName) prog_17_method_18_code (1 : Nat) (Option.some (Jvm.ClassFile.FieldType.object "java/lang/Throwable"))),
  (Jvm.Cond.methodLink "java/lang/Throwable" (202 : Nat) ({ cls := "java/lang/Throwable", name := "fillInStackTrace", desc := "(I)Ljava/lang/Throwable;" } : Jvm.MethodName)),
  (Jvm.Cond.instanceMethod ({ cls := "java/lang/Throwable", name := "fillInStackTrace", desc := "(I)Ljava/lang/Throwable;" } : Jvm.MethodName))]
set_option maxRecDepth 100000 in
def am_big_8 : List Jvm.Cond := [
  (Jvm.Cond.instantiable "java/lang/Throwable" (6 : Nat)),
  (Jvm.Cond.methodLink "TraceAligner" (65 : Nat) ({ cls := "java/lang/IllegalStateException", name := "<init>", desc := "(Ljava/lang/String;)V" } : Jvm.MethodName)),
  (Jvm.Cond.instanceMethod ({ cls := "java/lang/IllegalStateException", name := "<init>", desc := "(Ljava/lang/String;)V" } : Jvm.MethodName)),
  (Jvm.Cond.code ({ cls := "java/lang/IllegalStateException", name := "<init>", desc := "(Ljava/lang/String;)V" } : Jvm.MethodName) prog_10_method_2_code (2 : Nat) (Option.none : Option Jvm.ClassFile.FieldType)),
  (Jvm.Cond.methodLink "java/lang/IllegalStateException" (7 : Nat) ({ cls := "java/lang/RuntimeException", name := "<init>", desc := "(Ljava/lang/String;)V" } : Jvm.MethodName)),
  (Jvm.Cond.instanceMethod ({ cls := "java/lang/RuntimeException", name := "<init>", desc := "(Ljava/lang/String;)V" } : Jvm.MethodName)),
  (Jvm.Cond.code ({ cls := "java/lang/RuntimeException", name := "<init>", desc := "(Ljava/lang/String;)V" } : Jvm.MethodName) prog_14_method_2_code (2 : Nat) (Option.none : Option Jvm.ClassFile.FieldType)),
  (Jvm.Cond.methodLink "java/lang/RuntimeException" (7 : Nat) ({ cls := "java/lang/Exception", name := "<init>", desc := "(Ljava/lang/String;)V" } : Jvm.MethodName)),
  (Jvm.Cond.instanceMethod ({ cls := "java/lang/Exception", name := "<init>", desc := "(Ljava/lang/String;)V" } : Jvm.MethodName)),
  (Jvm.Cond.code ({ cls := "java/lang/Exception", name := "<init>", desc := "(Ljava/lang/String;)V" } : Jvm.MethodName) prog_8_method_2_code (2 : Nat) (Option.none : Option Jvm.ClassFile.FieldType)),
  (Jvm.Cond.methodLink "java/lang/Exception" (7 : Nat) ({ cls := "java/lang/Throwable", name := "<init>", desc := "(Ljava/lang/String;)V" } : Jvm.MethodName)),
  (Jvm.Cond.instanceMethod ({ cls := "java/lang/Throwable", name := "<init>", desc := "(Ljava/lang/String;)V" } : Jvm.MethodName)),
  (Jvm.Cond.code ({ cls := "java/lang/Throwable", name := "<init>", desc := "(Ljava/lang/String;)V" } : Jvm.MethodName) prog_17_method_2_code (2 : Nat) (Option.none : Option Jvm.ClassFile.FieldType)),
  (Jvm.Cond.fieldLink "java/lang/Throwable" (31 : Nat) "java/lang/Throwable" "detailMessage" "Ljava/lang/String;"),
  (Jvm.Cond.fieldLink "java/lang/Throwable" (7 : Nat) "java/lang/Throwable" "cause" "Ljava/lang/Throwable;"),
  (Jvm.Cond.fieldLink "java/lang/Throwable" (17 : Nat) "java/lang/Throwable" "stackTrace" "[Ljava/lang/StackTraceElement;"),
  (Jvm.Cond.fieldLink "java/lang/Throwable" (24 : Nat) "java/lang/Throwable" "suppressedExceptions" "Ljava/util/List;"),
  (Jvm.Cond.lays "java/lang/IllegalStateException" "java/lang/Throwable" "depth" "I"),
  (Jvm.Cond.superclass "java/lang/IllegalStateException" "java/lang/RuntimeException"),
  (Jvm.Cond.arrayClass Jvm.ClassFile.FieldType.byte),
  (Jvm.Cond.methodLink "TraceAligner" (68 : Nat) ({ cls := "TraceAligner", name := "forgetMarkings", desc := "()V" } : Jvm.MethodName)),
  (Jvm.Cond.instanceMethod ({ cls := "TraceAligner", name := "forgetMarkings", desc := "()V" } : Jvm.MethodName)),
  (Jvm.Cond.code ({ cls := "TraceAligner", name := "forgetMarkings", desc := "()V" } : Jvm.MethodName) prog_1_method_33_code (1 : Nat) (Option.none : Option Jvm.ClassFile.FieldType)),
  (Jvm.Cond.methodLink "TraceAligner" (186 : Nat) ({ cls := "TraceAligner", name := "forgetAlignments", desc := "()V" } : Jvm.MethodName)),
  (Jvm.Cond.instanceMethod ({ cls := "TraceAligner", name := "forgetAlignments", desc := "()V" } : Jvm.MethodName)),
  (Jvm.Cond.code ({ cls := "TraceAligner", name := "forgetAlignments", desc := "()V" } : Jvm.MethodName) prog_1_method_34_code (2 : Nat) (Option.none : Option Jvm.ClassFile.FieldType)),
  (Jvm.Cond.methodLink "TraceAligner" (71 : Nat) ({ cls := "TraceAligner$Net", name := "appendPlace", desc := "()I" } : Jvm.MethodName)),
  (Jvm.Cond.instanceMethod ({ cls := "TraceAligner$Net", name := "appendPlace", desc := "()I" } : Jvm.MethodName)),
  (Jvm.Cond.selects "TraceAligner$Net" ({ cls := "TraceAligner$Net", name := "appendPlace", desc := "()I" } : Jvm.MethodName) ({ cls := "TraceAligner$Net", name := "appendPlace", desc := "()I" } : Jvm.MethodName)),
  (Jvm.Cond.code ({ cls := "TraceAligner$Net", name := "appendPlace", desc := "()I" } : Jvm.MethodName) prog_3_method_2_code (1 : Nat) (Option.some Jvm.ClassFile.FieldType.int)),
  (Jvm.Cond.methodLink "TraceAlignerLaw" (117 : Nat) ({ cls := "TraceAlignerLaw", name := "addTransition", desc := "(LTraceAligner;I[J)I" } : Jvm.MethodName)),
  (Jvm.Cond.static ({ cls := "TraceAlignerLaw", name := "addTransition", desc := "(LTraceAligner;I[J)I" } : Jvm.MethodName)),
  (Jvm.Cond.codeWith ({ cls := "TraceAlignerLaw", name := "addTransition", desc := "(LTraceAligner;I[J)I" } : Jvm.MethodName) method_4_code (4 : Nat) (Option.some Jvm.ClassFile.FieldType.int) [((0 : Nat), (9 : Nat), (12 : Nat), (19 : Nat)), ((0 : Nat), (9 : Nat), (15 : Nat), (13 : Nat))]),
  (Jvm.Cond.classLink "TraceAlignerLaw" (19 : Nat) "java/lang/IllegalArgumentException"),
  (Jvm.Cond.methodLink "TraceAlignerLaw" (15 : Nat) ({ cls := "TraceAligner", name := "addTransition", desc := "(I)I" } : Jvm.MethodName)),
  (Jvm.Cond.instanceMethod ({ cls := "TraceAligner", name := "addTransition", desc := "(I)I" } : Jvm.MethodName)),
  (Jvm.Cond.selects "TraceAligner" ({ cls := "TraceAligner", name := "addTransition", desc := "(I)I" } : Jvm.MethodName) ({ cls := "TraceAligner", name := "addTransition", desc := "(I)I" } : Jvm.MethodName)),
  (Jvm.Cond.code ({ cls := "TraceAligner", name := "addTransition", desc := "(I)I" } : Jvm.MethodName) prog_1_method_3_code (2 : Nat) (Option.some Jvm.ClassFile.FieldType.int)),
  (Jvm.Cond.methodLink "TraceAligner" (75 : Nat) ({ cls := "TraceAligner", name := "isNoLabel", desc := "(I)Z" } : Jvm.MethodName)),
  (Jvm.Cond.static ({ cls := "TraceAligner", name := "isNoLabel", desc := "(I)Z" } : Jvm.MethodName))]
set_option maxRecDepth 100000 in
def am_big_9 : List Jvm.Cond := [
  (Jvm.Cond.code ({ cls := "TraceAligner", name := "isNoLabel", desc := "(I)Z" } : Jvm.MethodName) prog_1_method_35_code (1 : Nat) (Option.some Jvm.ClassFile.FieldType.boolean)),
  (Jvm.Cond.classLink "TraceAligner" (79 : Nat) "java/lang/IllegalArgumentException"),
  (Jvm.Cond.instantiable "java/lang/IllegalArgumentException" (6 : Nat)),
  (Jvm.Cond.selects "java/lang/IllegalArgumentException" ({ cls := "java/lang/Throwable", name := "fillInStackTrace", desc := "(I)Ljava/lang/Throwable;" } : Jvm.MethodName) ({ cls := "java/lang/Throwable", name := "fillInStackTrace", desc := "(I)Ljava/lang/Throwable;" } : Jvm.MethodName)),
  (Jvm.Cond.lays "java/lang/IllegalArgumentException" "java/lang/Throwable" "cause" "Ljava/lang/Throwable;"),
  (Jvm.Cond.lays "java/lang/IllegalArgumentException" "java/lang/Throwable" "stackTrace" "[Ljava/lang/StackTraceElement;"),
  (Jvm.Cond.lays "java/lang/IllegalArgumentException" "java/lang/Throwable" "suppressedExceptions" "Ljava/util/List;"),
  (Jvm.Cond.lays "java/lang/IllegalArgumentException" "java/lang/Throwable" "detailMessage" "Ljava/lang/String;"),
  (Jvm.Cond.lays "java/lang/IllegalArgumentException" "java/lang/Throwable" "backtrace" "Ljava/lang/Object;"),
  (Jvm.Cond.methodLink "TraceAligner" (83 : Nat) ({ cls := "java/lang/IllegalArgumentException", name := "<init>", desc := "(Ljava/lang/String;)V" } : Jvm.MethodName)),
  (Jvm.Cond.instanceMethod ({ cls := "java/lang/IllegalArgumentException", name := "<init>", desc := "(Ljava/lang/String;)V" } : Jvm.MethodName)),
  (Jvm.Cond.code ({ cls := "java/lang/IllegalArgumentException", name := "<init>", desc := "(Ljava/lang/String;)V" } : Jvm.MethodName) prog_9_method_2_code (2 : Nat) (Option.none : Option Jvm.ClassFile.FieldType)),
  (Jvm.Cond.methodLink "java/lang/IllegalArgumentException" (7 : Nat) ({ cls := "java/lang/RuntimeException", name := "<init>", desc := "(Ljava/lang/String;)V" } : Jvm.MethodName)),
  (Jvm.Cond.lays "java/lang/IllegalArgumentException" "java/lang/Throwable" "depth" "I"),
  (Jvm.Cond.superclass "java/lang/IllegalArgumentException" "java/lang/RuntimeException"),
  (Jvm.Cond.methodLink "TraceAligner" (89 : Nat) ({ cls := "TraceAligner$Net", name := "appendTransition", desc := "(I)I" } : Jvm.MethodName)),
  (Jvm.Cond.instanceMethod ({ cls := "TraceAligner$Net", name := "appendTransition", desc := "(I)I" } : Jvm.MethodName)),
  (Jvm.Cond.selects "TraceAligner$Net" ({ cls := "TraceAligner$Net", name := "appendTransition", desc := "(I)I" } : Jvm.MethodName) ({ cls := "TraceAligner$Net", name := "appendTransition", desc := "(I)I" } : Jvm.MethodName)),
  (Jvm.Cond.code ({ cls := "TraceAligner$Net", name := "appendTransition", desc := "(I)I" } : Jvm.MethodName) prog_3_method_3_code (2 : Nat) (Option.some Jvm.ClassFile.FieldType.int)),
  (Jvm.Cond.methodLink "TraceAlignerLaw" (121 : Nat) ({ cls := "TraceAlignerLaw", name := "link", desc := "(LTraceAligner;IIZZ[J)I" } : Jvm.MethodName)),
  (Jvm.Cond.static ({ cls := "TraceAlignerLaw", name := "link", desc := "(LTraceAligner;IIZZ[J)I" } : Jvm.MethodName)),
  (Jvm.Cond.codeWith ({ cls := "TraceAlignerLaw", name := "link", desc := "(LTraceAligner;IIZZ[J)I" } : Jvm.MethodName) method_5_code (7 : Nat) (Option.some Jvm.ClassFile.FieldType.int) [((0 : Nat), (21 : Nat), (24 : Nat), (25 : Nat))]),
  (Jvm.Cond.classLink "TraceAlignerLaw" (25 : Nat) "java/lang/IndexOutOfBoundsException"),
  (Jvm.Cond.methodLink "TraceAlignerLaw" (21 : Nat) ({ cls := "TraceAligner", name := "link", desc := "(IIZZ)Z" } : Jvm.MethodName)),
  (Jvm.Cond.instanceMethod ({ cls := "TraceAligner", name := "link", desc := "(IIZZ)Z" } : Jvm.MethodName)),
  (Jvm.Cond.selects "TraceAligner" ({ cls := "TraceAligner", name := "link", desc := "(IIZZ)Z" } : Jvm.MethodName) ({ cls := "TraceAligner", name := "link", desc := "(IIZZ)Z" } : Jvm.MethodName)),
  (Jvm.Cond.code ({ cls := "TraceAligner", name := "link", desc := "(IIZZ)Z" } : Jvm.MethodName) prog_1_method_4_code (7 : Nat) (Option.some Jvm.ClassFile.FieldType.boolean)),
  (Jvm.Cond.methodLink "TraceAligner" (93 : Nat) ({ cls := "TraceAligner", name := "requireTransition", desc := "(I)V" } : Jvm.MethodName)),
  (Jvm.Cond.instanceMethod ({ cls := "TraceAligner", name := "requireTransition", desc := "(I)V" } : Jvm.MethodName)),
  (Jvm.Cond.code ({ cls := "TraceAligner", name := "requireTransition", desc := "(I)V" } : Jvm.MethodName) prog_1_method_37_code (2 : Nat) (Option.none : Option Jvm.ClassFile.FieldType)),
  (Jvm.Cond.classLink "TraceAligner" (121 : Nat) "java/lang/IndexOutOfBoundsException"),
  (Jvm.Cond.instantiable "java/lang/IndexOutOfBoundsException" (6 : Nat)),
  (Jvm.Cond.selects "java/lang/IndexOutOfBoundsException" ({ cls := "java/lang/Throwable", name := "fillInStackTrace", desc := "(I)Ljava/lang/Throwable;" } : Jvm.MethodName) ({ cls := "java/lang/Throwable", name := "fillInStackTrace", desc := "(I)Ljava/lang/Throwable;" } : Jvm.MethodName)),
  (Jvm.Cond.lays "java/lang/IndexOutOfBoundsException" "java/lang/Throwable" "cause" "Ljava/lang/Throwable;"),
  (Jvm.Cond.lays "java/lang/IndexOutOfBoundsException" "java/lang/Throwable" "stackTrace" "[Ljava/lang/StackTraceElement;"),
  (Jvm.Cond.lays "java/lang/IndexOutOfBoundsException" "java/lang/Throwable" "suppressedExceptions" "Ljava/util/List;"),
  (Jvm.Cond.lays "java/lang/IndexOutOfBoundsException" "java/lang/Throwable" "detailMessage" "Ljava/lang/String;"),
  (Jvm.Cond.lays "java/lang/IndexOutOfBoundsException" "java/lang/Throwable" "backtrace" "Ljava/lang/Object;"),
  (Jvm.Cond.methodLink "TraceAligner" (125 : Nat) ({ cls := "java/lang/IndexOutOfBoundsException", name := "<init>", desc := "(Ljava/lang/String;)V" } : Jvm.MethodName)),
  (Jvm.Cond.instanceMethod ({ cls := "java/lang/IndexOutOfBoundsException", name := "<init>", desc := "(Ljava/lang/String;)V" } : Jvm.MethodName))]
set_option maxRecDepth 100000 in
def am_big_10 : List Jvm.Cond := [
  (Jvm.Cond.code ({ cls := "java/lang/IndexOutOfBoundsException", name := "<init>", desc := "(Ljava/lang/String;)V" } : Jvm.MethodName) prog_11_method_2_code (2 : Nat) (Option.none : Option Jvm.ClassFile.FieldType)),
  (Jvm.Cond.methodLink "java/lang/IndexOutOfBoundsException" (7 : Nat) ({ cls := "java/lang/RuntimeException", name := "<init>", desc := "(Ljava/lang/String;)V" } : Jvm.MethodName)),
  (Jvm.Cond.lays "java/lang/IndexOutOfBoundsException" "java/lang/Throwable" "depth" "I"),
  (Jvm.Cond.superclass "java/lang/IndexOutOfBoundsException" "java/lang/RuntimeException"),
  (Jvm.Cond.methodLink "TraceAligner" (97 : Nat) ({ cls := "TraceAligner", name := "requirePlace", desc := "(I)V" } : Jvm.MethodName)),
  (Jvm.Cond.instanceMethod ({ cls := "TraceAligner", name := "requirePlace", desc := "(I)V" } : Jvm.MethodName)),
  (Jvm.Cond.code ({ cls := "TraceAligner", name := "requirePlace", desc := "(I)V" } : Jvm.MethodName) prog_1_method_36_code (2 : Nat) (Option.none : Option Jvm.ClassFile.FieldType)),
  (Jvm.Cond.methodLink "TraceAligner" (106 : Nat) ({ cls := "TraceAligner", name := "isIn", desc := "(II)Z" } : Jvm.MethodName)),
  (Jvm.Cond.methodLink "TraceAlignerLaw" (125 : Nat) ({ cls := "TraceAlignerLaw", name := "setTokens", desc := "(LTraceAligner;IIZ[J)I" } : Jvm.MethodName)),
  (Jvm.Cond.static ({ cls := "TraceAlignerLaw", name := "setTokens", desc := "(LTraceAligner;IIZ[J)I" } : Jvm.MethodName)),
  (Jvm.Cond.codeWith ({ cls := "TraceAlignerLaw", name := "setTokens", desc := "(LTraceAligner;IIZ[J)I" } : Jvm.MethodName) method_6_code (6 : Nat) (Option.some Jvm.ClassFile.FieldType.int) [((0 : Nat), (12 : Nat), (15 : Nat), (25 : Nat)), ((0 : Nat), (12 : Nat), (19 : Nat), (19 : Nat))]),
  (Jvm.Cond.methodLink "TraceAlignerLaw" (27 : Nat) ({ cls := "TraceAligner", name := "setTokens", desc := "(IIZ)I" } : Jvm.MethodName)),
  (Jvm.Cond.instanceMethod ({ cls := "TraceAligner", name := "setTokens", desc := "(IIZ)I" } : Jvm.MethodName)),
  (Jvm.Cond.selects "TraceAligner" ({ cls := "TraceAligner", name := "setTokens", desc := "(IIZ)I" } : Jvm.MethodName) ({ cls := "TraceAligner", name := "setTokens", desc := "(IIZ)I" } : Jvm.MethodName)),
  (Jvm.Cond.code ({ cls := "TraceAligner", name := "setTokens", desc := "(IIZ)I" } : Jvm.MethodName) prog_1_method_5_code (6 : Nat) (Option.some Jvm.ClassFile.FieldType.int)),
  (Jvm.Cond.methodLink "TraceAlignerLaw" (129 : Nat) ({ cls := "TraceAlignerLaw", name := "count", desc := "(LTraceAligner;I[J)I" } : Jvm.MethodName)),
  (Jvm.Cond.static ({ cls := "TraceAlignerLaw", name := "count", desc := "(LTraceAligner;I[J)I" } : Jvm.MethodName)),
  (Jvm.Cond.codeWith ({ cls := "TraceAlignerLaw", name := "count", desc := "(LTraceAligner;I[J)I" } : Jvm.MethodName) method_7_code (4 : Nat) (Option.some Jvm.ClassFile.FieldType.int) [((0 : Nat), (9 : Nat), (12 : Nat), (25 : Nat))]),
  (Jvm.Cond.methodLink "TraceAlignerLaw" (31 : Nat) ({ cls := "TraceAligner", name := "count", desc := "(I)I" } : Jvm.MethodName)),
  (Jvm.Cond.instanceMethod ({ cls := "TraceAligner", name := "count", desc := "(I)I" } : Jvm.MethodName)),
  (Jvm.Cond.selects "TraceAligner" ({ cls := "TraceAligner", name := "count", desc := "(I)I" } : Jvm.MethodName) ({ cls := "TraceAligner", name := "count", desc := "(I)I" } : Jvm.MethodName)),
  (Jvm.Cond.code ({ cls := "TraceAligner", name := "count", desc := "(I)I" } : Jvm.MethodName) prog_1_method_6_code (2 : Nat) (Option.some Jvm.ClassFile.FieldType.int)),
  (Jvm.Cond.methodLink "TraceAlignerLaw" (132 : Nat) ({ cls := "TraceAlignerLaw", name := "label", desc := "(LTraceAligner;I[J)I" } : Jvm.MethodName)),
  (Jvm.Cond.static ({ cls := "TraceAlignerLaw", name := "label", desc := "(LTraceAligner;I[J)I" } : Jvm.MethodName)),
  (Jvm.Cond.codeWith ({ cls := "TraceAlignerLaw", name := "label", desc := "(LTraceAligner;I[J)I" } : Jvm.MethodName) method_8_code (4 : Nat) (Option.some Jvm.ClassFile.FieldType.int) [((0 : Nat), (9 : Nat), (12 : Nat), (25 : Nat))]),
  (Jvm.Cond.methodLink "TraceAlignerLaw" (34 : Nat) ({ cls := "TraceAligner", name := "label", desc := "(I)I" } : Jvm.MethodName)),
  (Jvm.Cond.instanceMethod ({ cls := "TraceAligner", name := "label", desc := "(I)I" } : Jvm.MethodName)),
  (Jvm.Cond.selects "TraceAligner" ({ cls := "TraceAligner", name := "label", desc := "(I)I" } : Jvm.MethodName) ({ cls := "TraceAligner", name := "label", desc := "(I)I" } : Jvm.MethodName)),
  (Jvm.Cond.code ({ cls := "TraceAligner", name := "label", desc := "(I)I" } : Jvm.MethodName) prog_1_method_7_code (2 : Nat) (Option.some Jvm.ClassFile.FieldType.int)),
  (Jvm.Cond.methodLink "TraceAlignerLaw" (139 : Nat) ({ cls := "TraceAlignerLaw", name := "tokens", desc := "(LTraceAligner;II[J)I" } : Jvm.MethodName)),
  (Jvm.Cond.static ({ cls := "TraceAlignerLaw", name := "tokens", desc := "(LTraceAligner;II[J)I" } : Jvm.MethodName)),
  (Jvm.Cond.codeWith ({ cls := "TraceAlignerLaw", name := "tokens", desc := "(LTraceAligner;II[J)I" } : Jvm.MethodName) method_9_code (5 : Nat) (Option.some Jvm.ClassFile.FieldType.int) [((0 : Nat), (10 : Nat), (13 : Nat), (13 : Nat)), ((0 : Nat), (10 : Nat), (17 : Nat), (25 : Nat))]),
  (Jvm.Cond.methodLink "TraceAlignerLaw" (37 : Nat) ({ cls := "TraceAligner", name := "tokens", desc := "(II)I" } : Jvm.MethodName)),
  (Jvm.Cond.instanceMethod ({ cls := "TraceAligner", name := "tokens", desc := "(II)I" } : Jvm.MethodName)),
  (Jvm.Cond.selects "TraceAligner" ({ cls := "TraceAligner", name := "tokens", desc := "(II)I" } : Jvm.MethodName) ({ cls := "TraceAligner", name := "tokens", desc := "(II)I" } : Jvm.MethodName)),
  (Jvm.Cond.code ({ cls := "TraceAligner", name := "tokens", desc := "(II)I" } : Jvm.MethodName) prog_1_method_9_code (3 : Nat) (Option.some Jvm.ClassFile.FieldType.int)),
  (Jvm.Cond.methodLink "TraceAligner" (135 : Nat) ({ cls := "TraceAligner", name := "requireMarkings", desc := "()V" } : Jvm.MethodName)),
  (Jvm.Cond.instanceMethod ({ cls := "TraceAligner", name := "requireMarkings", desc := "()V" } : Jvm.MethodName)),
  (Jvm.Cond.code ({ cls := "TraceAligner", name := "requireMarkings", desc := "()V" } : Jvm.MethodName) prog_1_method_38_code (1 : Nat) (Option.none : Option Jvm.ClassFile.FieldType)),
  (Jvm.Cond.methodLink "TraceAligner" (138 : Nat) ({ cls := "TraceAligner", name := "requireMarking", desc := "(I)V" } : Jvm.MethodName))]
set_option maxRecDepth 100000 in
def am_big_11 : List Jvm.Cond := [
  (Jvm.Cond.instanceMethod ({ cls := "TraceAligner", name := "requireMarking", desc := "(I)V" } : Jvm.MethodName)),
  (Jvm.Cond.code ({ cls := "TraceAligner", name := "requireMarking", desc := "(I)V" } : Jvm.MethodName) prog_1_method_39_code (2 : Nat) (Option.none : Option Jvm.ClassFile.FieldType)),
  (Jvm.Cond.methodLink "TraceAligner" (144 : Nat) ({ cls := "TraceAligner", name := "tokensIn", desc := "(II)I" } : Jvm.MethodName)),
  (Jvm.Cond.methodLink "TraceAlignerLaw" (143 : Nat) ({ cls := "TraceAlignerLaw", name := "enabled", desc := "(LTraceAligner;I[J)I" } : Jvm.MethodName)),
  (Jvm.Cond.static ({ cls := "TraceAlignerLaw", name := "enabled", desc := "(LTraceAligner;I[J)I" } : Jvm.MethodName)),
  (Jvm.Cond.codeWith ({ cls := "TraceAlignerLaw", name := "enabled", desc := "(LTraceAligner;I[J)I" } : Jvm.MethodName) method_10_code (4 : Nat) (Option.some Jvm.ClassFile.FieldType.int) [((0 : Nat), (9 : Nat), (12 : Nat), (13 : Nat)), ((0 : Nat), (9 : Nat), (15 : Nat), (25 : Nat))]),
  (Jvm.Cond.methodLink "TraceAlignerLaw" (41 : Nat) ({ cls := "TraceAligner", name := "enabled", desc := "(I)I" } : Jvm.MethodName)),
  (Jvm.Cond.instanceMethod ({ cls := "TraceAligner", name := "enabled", desc := "(I)I" } : Jvm.MethodName)),
  (Jvm.Cond.selects "TraceAligner" ({ cls := "TraceAligner", name := "enabled", desc := "(I)I" } : Jvm.MethodName) ({ cls := "TraceAligner", name := "enabled", desc := "(I)I" } : Jvm.MethodName)),
  (Jvm.Cond.code ({ cls := "TraceAligner", name := "enabled", desc := "(I)I" } : Jvm.MethodName) prog_1_method_10_code (2 : Nat) (Option.some Jvm.ClassFile.FieldType.int)),
  (Jvm.Cond.methodLink "TraceAlignerLaw" (146 : Nat) ({ cls := "TraceAlignerLaw", name := "next", desc := "(LTraceAligner;II[J)I" } : Jvm.MethodName)),
  (Jvm.Cond.static ({ cls := "TraceAlignerLaw", name := "next", desc := "(LTraceAligner;II[J)I" } : Jvm.MethodName)),
  (Jvm.Cond.codeWith ({ cls := "TraceAlignerLaw", name := "next", desc := "(LTraceAligner;II[J)I" } : Jvm.MethodName) method_11_code (5 : Nat) (Option.some Jvm.ClassFile.FieldType.int) [((0 : Nat), (10 : Nat), (13 : Nat), (13 : Nat)), ((0 : Nat), (10 : Nat), (17 : Nat), (25 : Nat))]),
  (Jvm.Cond.methodLink "TraceAlignerLaw" (44 : Nat) ({ cls := "TraceAligner", name := "next", desc := "(II)I" } : Jvm.MethodName)),
  (Jvm.Cond.instanceMethod ({ cls := "TraceAligner", name := "next", desc := "(II)I" } : Jvm.MethodName)),
  (Jvm.Cond.selects "TraceAligner" ({ cls := "TraceAligner", name := "next", desc := "(II)I" } : Jvm.MethodName) ({ cls := "TraceAligner", name := "next", desc := "(II)I" } : Jvm.MethodName)),
  (Jvm.Cond.code ({ cls := "TraceAligner", name := "next", desc := "(II)I" } : Jvm.MethodName) prog_1_method_11_code (3 : Nat) (Option.some Jvm.ClassFile.FieldType.int)),
  (Jvm.Cond.methodLink "TraceAligner" (151 : Nat) ({ cls := "TraceAligner$MarkingGraph", name := "follower", desc := "(II)I" } : Jvm.MethodName)),
  (Jvm.Cond.methodLink "TraceAlignerLaw" (149 : Nat) ({ cls := "TraceAlignerLaw", name := "last", desc := "(LTraceAligner;[J)I" } : Jvm.MethodName)),
  (Jvm.Cond.static ({ cls := "TraceAlignerLaw", name := "last", desc := "(LTraceAligner;[J)I" } : Jvm.MethodName)),
  (Jvm.Cond.codeWith ({ cls := "TraceAlignerLaw", name := "last", desc := "(LTraceAligner;[J)I" } : Jvm.MethodName) method_12_code (3 : Nat) (Option.some Jvm.ClassFile.FieldType.int) [((0 : Nat), (8 : Nat), (11 : Nat), (13 : Nat))]),
  (Jvm.Cond.methodLink "TraceAlignerLaw" (47 : Nat) ({ cls := "TraceAligner", name := "last", desc := "()I" } : Jvm.MethodName)),
  (Jvm.Cond.instanceMethod ({ cls := "TraceAligner", name := "last", desc := "()I" } : Jvm.MethodName)),
  (Jvm.Cond.selects "TraceAligner" ({ cls := "TraceAligner", name := "last", desc := "()I" } : Jvm.MethodName) ({ cls := "TraceAligner", name := "last", desc := "()I" } : Jvm.MethodName)),
  (Jvm.Cond.code ({ cls := "TraceAligner", name := "last", desc := "()I" } : Jvm.MethodName) prog_1_method_12_code (1 : Nat) (Option.some Jvm.ClassFile.FieldType.int)),
  (Jvm.Cond.methodLink "TraceAlignerLaw" (152 : Nat) ({ cls := "TraceAlignerLaw", name := "dead", desc := "(LTraceAligner;[J)I" } : Jvm.MethodName)),
  (Jvm.Cond.static ({ cls := "TraceAlignerLaw", name := "dead", desc := "(LTraceAligner;[J)I" } : Jvm.MethodName)),
  (Jvm.Cond.codeWith ({ cls := "TraceAlignerLaw", name := "dead", desc := "(LTraceAligner;[J)I" } : Jvm.MethodName) method_13_code (3 : Nat) (Option.some Jvm.ClassFile.FieldType.int) [((0 : Nat), (8 : Nat), (11 : Nat), (13 : Nat))]),
  (Jvm.Cond.methodLink "TraceAlignerLaw" (50 : Nat) ({ cls := "TraceAligner", name := "dead", desc := "()I" } : Jvm.MethodName)),
  (Jvm.Cond.instanceMethod ({ cls := "TraceAligner", name := "dead", desc := "()I" } : Jvm.MethodName)),
  (Jvm.Cond.selects "TraceAligner" ({ cls := "TraceAligner", name := "dead", desc := "()I" } : Jvm.MethodName) ({ cls := "TraceAligner", name := "dead", desc := "()I" } : Jvm.MethodName)),
  (Jvm.Cond.code ({ cls := "TraceAligner", name := "dead", desc := "()I" } : Jvm.MethodName) prog_1_method_13_code (3 : Nat) (Option.some Jvm.ClassFile.FieldType.int)),
  (Jvm.Cond.methodLink "TraceAlignerLaw" (155 : Nat) ({ cls := "TraceAlignerLaw", name := "live", desc := "(LTraceAligner;[J)I" } : Jvm.MethodName)),
  (Jvm.Cond.static ({ cls := "TraceAlignerLaw", name := "live", desc := "(LTraceAligner;[J)I" } : Jvm.MethodName)),
  (Jvm.Cond.codeWith ({ cls := "TraceAlignerLaw", name := "live", desc := "(LTraceAligner;[J)I" } : Jvm.MethodName) method_14_code (3 : Nat) (Option.some Jvm.ClassFile.FieldType.int) [((0 : Nat), (8 : Nat), (11 : Nat), (13 : Nat))]),
  (Jvm.Cond.methodLink "TraceAlignerLaw" (53 : Nat) ({ cls := "TraceAligner", name := "live", desc := "()I" } : Jvm.MethodName)),
  (Jvm.Cond.instanceMethod ({ cls := "TraceAligner", name := "live", desc := "()I" } : Jvm.MethodName)),
  (Jvm.Cond.selects "TraceAligner" ({ cls := "TraceAligner", name := "live", desc := "()I" } : Jvm.MethodName) ({ cls := "TraceAligner", name := "live", desc := "()I" } : Jvm.MethodName)),
  (Jvm.Cond.code ({ cls := "TraceAligner", name := "live", desc := "()I" } : Jvm.MethodName) prog_1_method_14_code (3 : Nat) (Option.some Jvm.ClassFile.FieldType.int)),
  (Jvm.Cond.methodLink "TraceAlignerLaw" (158 : Nat) ({ cls := "TraceAlignerLaw", name := "away", desc := "(LTraceAligner;I[J)I" } : Jvm.MethodName))]
set_option maxRecDepth 100000 in
def am_big_12 : List Jvm.Cond := [
  (Jvm.Cond.static ({ cls := "TraceAlignerLaw", name := "away", desc := "(LTraceAligner;I[J)I" } : Jvm.MethodName)),
  (Jvm.Cond.codeWith ({ cls := "TraceAlignerLaw", name := "away", desc := "(LTraceAligner;I[J)I" } : Jvm.MethodName) method_15_code (4 : Nat) (Option.some Jvm.ClassFile.FieldType.int) [((0 : Nat), (9 : Nat), (12 : Nat), (13 : Nat)), ((0 : Nat), (9 : Nat), (15 : Nat), (25 : Nat))]),
  (Jvm.Cond.methodLink "TraceAlignerLaw" (56 : Nat) ({ cls := "TraceAligner", name := "away", desc := "(I)I" } : Jvm.MethodName)),
  (Jvm.Cond.instanceMethod ({ cls := "TraceAligner", name := "away", desc := "(I)I" } : Jvm.MethodName)),
  (Jvm.Cond.selects "TraceAligner" ({ cls := "TraceAligner", name := "away", desc := "(I)I" } : Jvm.MethodName) ({ cls := "TraceAligner", name := "away", desc := "(I)I" } : Jvm.MethodName)),
  (Jvm.Cond.code ({ cls := "TraceAligner", name := "away", desc := "(I)I" } : Jvm.MethodName) prog_1_method_15_code (2 : Nat) (Option.some Jvm.ClassFile.FieldType.int)),
  (Jvm.Cond.methodLink "TraceAligner" (157 : Nat) ({ cls := "TraceAligner$PathFinder", name := "stepsToLast", desc := "(I)I" } : Jvm.MethodName)),
  (Jvm.Cond.instanceMethod ({ cls := "TraceAligner$PathFinder", name := "stepsToLast", desc := "(I)I" } : Jvm.MethodName)),
  (Jvm.Cond.selects "TraceAligner$PathFinder" ({ cls := "TraceAligner$PathFinder", name := "stepsToLast", desc := "(I)I" } : Jvm.MethodName) ({ cls := "TraceAligner$PathFinder", name := "stepsToLast", desc := "(I)I" } : Jvm.MethodName)),
  (Jvm.Cond.code ({ cls := "TraceAligner$PathFinder", name := "stepsToLast", desc := "(I)I" } : Jvm.MethodName) prog_4_method_2_code (2 : Nat) (Option.some Jvm.ClassFile.FieldType.int)),
  (Jvm.Cond.methodLink "TraceAlignerLaw" (161 : Nat) ({ cls := "TraceAlignerLaw", name := "event", desc := "(LTraceAligner;I[J)I" } : Jvm.MethodName)),
  (Jvm.Cond.static ({ cls := "TraceAlignerLaw", name := "event", desc := "(LTraceAligner;I[J)I" } : Jvm.MethodName)),
  (Jvm.Cond.codeWith ({ cls := "TraceAlignerLaw", name := "event", desc := "(LTraceAligner;I[J)I" } : Jvm.MethodName) method_16_code (4 : Nat) (Option.some Jvm.ClassFile.FieldType.int) [((0 : Nat), (9 : Nat), (12 : Nat), (19 : Nat)), ((0 : Nat), (9 : Nat), (15 : Nat), (13 : Nat))]),
  (Jvm.Cond.methodLink "TraceAlignerLaw" (59 : Nat) ({ cls := "TraceAligner", name := "event", desc := "(I)I" } : Jvm.MethodName)),
  (Jvm.Cond.instanceMethod ({ cls := "TraceAligner", name := "event", desc := "(I)I" } : Jvm.MethodName)),
  (Jvm.Cond.selects "TraceAligner" ({ cls := "TraceAligner", name := "event", desc := "(I)I" } : Jvm.MethodName) ({ cls := "TraceAligner", name := "event", desc := "(I)I" } : Jvm.MethodName)),
  (Jvm.Cond.code ({ cls := "TraceAligner", name := "event", desc := "(I)I" } : Jvm.MethodName) prog_1_method_16_code (2 : Nat) (Option.some Jvm.ClassFile.FieldType.int)),
  (Jvm.Cond.methodLink "TraceAlignerLaw" (164 : Nat) ({ cls := "TraceAlignerLaw", name := "store", desc := "(LTraceAligner;I[J)I" } : Jvm.MethodName)),
  (Jvm.Cond.static ({ cls := "TraceAlignerLaw", name := "store", desc := "(LTraceAligner;I[J)I" } : Jvm.MethodName)),
  (Jvm.Cond.codeWith ({ cls := "TraceAlignerLaw", name := "store", desc := "(LTraceAligner;I[J)I" } : Jvm.MethodName) method_17_code (4 : Nat) (Option.some Jvm.ClassFile.FieldType.int) [((0 : Nat), (9 : Nat), (12 : Nat), (19 : Nat)), ((0 : Nat), (9 : Nat), (15 : Nat), (13 : Nat))]),
  (Jvm.Cond.methodLink "TraceAlignerLaw" (62 : Nat) ({ cls := "TraceAligner", name := "store", desc := "(I)I" } : Jvm.MethodName)),
  (Jvm.Cond.instanceMethod ({ cls := "TraceAligner", name := "store", desc := "(I)I" } : Jvm.MethodName)),
  (Jvm.Cond.selects "TraceAligner" ({ cls := "TraceAligner", name := "store", desc := "(I)I" } : Jvm.MethodName) ({ cls := "TraceAligner", name := "store", desc := "(I)I" } : Jvm.MethodName)),
  (Jvm.Cond.code ({ cls := "TraceAligner", name := "store", desc := "(I)I" } : Jvm.MethodName) prog_1_method_17_code (2 : Nat) (Option.some Jvm.ClassFile.FieldType.int)),
  (Jvm.Cond.methodLink "TraceAligner" (171 : Nat) ({ cls := "TraceAligner$Trace", name := "take", desc := "([III)V" } : Jvm.MethodName)),
  (Jvm.Cond.instanceMethod ({ cls := "TraceAligner$Trace", name := "take", desc := "([III)V" } : Jvm.MethodName)),
  (Jvm.Cond.selects "TraceAligner$Trace" ({ cls := "TraceAligner$Trace", name := "take", desc := "([III)V" } : Jvm.MethodName) ({ cls := "TraceAligner$Trace", name := "take", desc := "([III)V" } : Jvm.MethodName)),
  (Jvm.Cond.code ({ cls := "TraceAligner$Trace", name := "take", desc := "([III)V" } : Jvm.MethodName) prog_5_method_2_code (4 : Nat) (Option.none : Option Jvm.ClassFile.FieldType)),
  (Jvm.Cond.methodLink "TraceAligner$Trace" (18 : Nat) ({ cls := "java/lang/System", name := "arraycopy", desc := "(Ljava/lang/Object;ILjava/lang/Object;II)V" } : Jvm.MethodName)),
  (Jvm.Cond.static ({ cls := "java/lang/System", name := "arraycopy", desc := "(Ljava/lang/Object;ILjava/lang/Object;II)V" } : Jvm.MethodName)),
  (Jvm.Cond.methodLink "TraceAlignerLaw" (167 : Nat) ({ cls := "TraceAlignerLaw", name := "dropTrace", desc := "(LTraceAligner;[J)I" } : Jvm.MethodName)),
  (Jvm.Cond.static ({ cls := "TraceAlignerLaw", name := "dropTrace", desc := "(LTraceAligner;[J)I" } : Jvm.MethodName)),
  (Jvm.Cond.codeWith ({ cls := "TraceAlignerLaw", name := "dropTrace", desc := "(LTraceAligner;[J)I" } : Jvm.MethodName) method_18_code (3 : Nat) (Option.some Jvm.ClassFile.FieldType.int) [((0 : Nat), (8 : Nat), (11 : Nat), (13 : Nat))]),
  (Jvm.Cond.methodLink "TraceAlignerLaw" (65 : Nat) ({ cls := "TraceAligner", name := "dropTrace", desc := "()I" } : Jvm.MethodName)),
  (Jvm.Cond.instanceMethod ({ cls := "TraceAligner", name := "dropTrace", desc := "()I" } : Jvm.MethodName)),
  (Jvm.Cond.selects "TraceAligner" ({ cls := "TraceAligner", name := "dropTrace", desc := "()I" } : Jvm.MethodName) ({ cls := "TraceAligner", name := "dropTrace", desc := "()I" } : Jvm.MethodName)),
  (Jvm.Cond.code ({ cls := "TraceAligner", name := "dropTrace", desc := "()I" } : Jvm.MethodName) prog_1_method_18_code (1 : Nat) (Option.some Jvm.ClassFile.FieldType.int)),
  (Jvm.Cond.methodLink "TraceAlignerLaw" (170 : Nat) ({ cls := "TraceAlignerLaw", name := "length", desc := "(LTraceAligner;I[J)I" } : Jvm.MethodName)),
  (Jvm.Cond.static ({ cls := "TraceAlignerLaw", name := "length", desc := "(LTraceAligner;I[J)I" } : Jvm.MethodName)),
  (Jvm.Cond.codeWith ({ cls := "TraceAlignerLaw", name := "length", desc := "(LTraceAligner;I[J)I" } : Jvm.MethodName) method_19_code (4 : Nat) (Option.some Jvm.ClassFile.FieldType.int) [((0 : Nat), (9 : Nat), (12 : Nat), (25 : Nat))])]
set_option maxRecDepth 100000 in
def am_big_13 : List Jvm.Cond := [
  (Jvm.Cond.methodLink "TraceAlignerLaw" (68 : Nat) ({ cls := "TraceAligner", name := "length", desc := "(I)I" } : Jvm.MethodName)),
  (Jvm.Cond.instanceMethod ({ cls := "TraceAligner", name := "length", desc := "(I)I" } : Jvm.MethodName)),
  (Jvm.Cond.selects "TraceAligner" ({ cls := "TraceAligner", name := "length", desc := "(I)I" } : Jvm.MethodName) ({ cls := "TraceAligner", name := "length", desc := "(I)I" } : Jvm.MethodName)),
  (Jvm.Cond.code ({ cls := "TraceAligner", name := "length", desc := "(I)I" } : Jvm.MethodName) prog_1_method_19_code (2 : Nat) (Option.some Jvm.ClassFile.FieldType.int)),
  (Jvm.Cond.methodLink "TraceAligner" (177 : Nat) ({ cls := "TraceAligner", name := "requireTrace", desc := "(I)V" } : Jvm.MethodName)),
  (Jvm.Cond.instanceMethod ({ cls := "TraceAligner", name := "requireTrace", desc := "(I)V" } : Jvm.MethodName)),
  (Jvm.Cond.code ({ cls := "TraceAligner", name := "requireTrace", desc := "(I)V" } : Jvm.MethodName) prog_1_method_40_code (2 : Nat) (Option.none : Option Jvm.ClassFile.FieldType)),
  (Jvm.Cond.methodLink "TraceAlignerLaw" (173 : Nat) ({ cls := "TraceAlignerLaw", name := "setLabelCost", desc := "(LTraceAligner;II[J)I" } : Jvm.MethodName)),
  (Jvm.Cond.static ({ cls := "TraceAlignerLaw", name := "setLabelCost", desc := "(LTraceAligner;II[J)I" } : Jvm.MethodName)),
  (Jvm.Cond.codeWith ({ cls := "TraceAlignerLaw", name := "setLabelCost", desc := "(LTraceAligner;II[J)I" } : Jvm.MethodName) method_20_code (5 : Nat) (Option.some Jvm.ClassFile.FieldType.int) [((0 : Nat), (10 : Nat), (13 : Nat), (25 : Nat)), ((0 : Nat), (10 : Nat), (17 : Nat), (19 : Nat))]),
  (Jvm.Cond.methodLink "TraceAlignerLaw" (71 : Nat) ({ cls := "TraceAligner", name := "setLabelCost", desc := "(II)I" } : Jvm.MethodName)),
  (Jvm.Cond.instanceMethod ({ cls := "TraceAligner", name := "setLabelCost", desc := "(II)I" } : Jvm.MethodName)),
  (Jvm.Cond.selects "TraceAligner" ({ cls := "TraceAligner", name := "setLabelCost", desc := "(II)I" } : Jvm.MethodName) ({ cls := "TraceAligner", name := "setLabelCost", desc := "(II)I" } : Jvm.MethodName)),
  (Jvm.Cond.code ({ cls := "TraceAligner", name := "setLabelCost", desc := "(II)I" } : Jvm.MethodName) prog_1_method_20_code (4 : Nat) (Option.some Jvm.ClassFile.FieldType.int)),
  (Jvm.Cond.methodLink "TraceAligner" (183 : Nat) ({ cls := "TraceAligner", name := "requireCost", desc := "(I)V" } : Jvm.MethodName)),
  (Jvm.Cond.static ({ cls := "TraceAligner", name := "requireCost", desc := "(I)V" } : Jvm.MethodName)),
  (Jvm.Cond.code ({ cls := "TraceAligner", name := "requireCost", desc := "(I)V" } : Jvm.MethodName) prog_1_method_41_code (1 : Nat) (Option.none : Option Jvm.ClassFile.FieldType)),
  (Jvm.Cond.methodLink "TraceAlignerLaw" (176 : Nat) ({ cls := "TraceAlignerLaw", name := "setCost", desc := "(LTraceAligner;II[J)I" } : Jvm.MethodName)),
  (Jvm.Cond.static ({ cls := "TraceAlignerLaw", name := "setCost", desc := "(LTraceAligner;II[J)I" } : Jvm.MethodName)),
  (Jvm.Cond.codeWith ({ cls := "TraceAlignerLaw", name := "setCost", desc := "(LTraceAligner;II[J)I" } : Jvm.MethodName) method_21_code (5 : Nat) (Option.some Jvm.ClassFile.FieldType.int) [((0 : Nat), (10 : Nat), (13 : Nat), (25 : Nat)), ((0 : Nat), (10 : Nat), (17 : Nat), (19 : Nat))]),
  (Jvm.Cond.methodLink "TraceAlignerLaw" (74 : Nat) ({ cls := "TraceAligner", name := "setCost", desc := "(II)I" } : Jvm.MethodName)),
  (Jvm.Cond.instanceMethod ({ cls := "TraceAligner", name := "setCost", desc := "(II)I" } : Jvm.MethodName)),
  (Jvm.Cond.selects "TraceAligner" ({ cls := "TraceAligner", name := "setCost", desc := "(II)I" } : Jvm.MethodName) ({ cls := "TraceAligner", name := "setCost", desc := "(II)I" } : Jvm.MethodName)),
  (Jvm.Cond.code ({ cls := "TraceAligner", name := "setCost", desc := "(II)I" } : Jvm.MethodName) prog_1_method_21_code (4 : Nat) (Option.some Jvm.ClassFile.FieldType.int)),
  (Jvm.Cond.methodLink "TraceAlignerLaw" (179 : Nat) ({ cls := "TraceAlignerLaw", name := "cost", desc := "(LTraceAligner;I[J)I" } : Jvm.MethodName)),
  (Jvm.Cond.static ({ cls := "TraceAlignerLaw", name := "cost", desc := "(LTraceAligner;I[J)I" } : Jvm.MethodName)),
  (Jvm.Cond.codeWith ({ cls := "TraceAlignerLaw", name := "cost", desc := "(LTraceAligner;I[J)I" } : Jvm.MethodName) method_22_code (4 : Nat) (Option.some Jvm.ClassFile.FieldType.int) [((0 : Nat), (9 : Nat), (12 : Nat), (25 : Nat)), ((0 : Nat), (9 : Nat), (15 : Nat), (13 : Nat))]),
  (Jvm.Cond.methodLink "TraceAlignerLaw" (77 : Nat) ({ cls := "TraceAligner", name := "cost", desc := "(I)I" } : Jvm.MethodName)),
  (Jvm.Cond.instanceMethod ({ cls := "TraceAligner", name := "cost", desc := "(I)I" } : Jvm.MethodName)),
  (Jvm.Cond.selects "TraceAligner" ({ cls := "TraceAligner", name := "cost", desc := "(I)I" } : Jvm.MethodName) ({ cls := "TraceAligner", name := "cost", desc := "(I)I" } : Jvm.MethodName)),
  (Jvm.Cond.code ({ cls := "TraceAligner", name := "cost", desc := "(I)I" } : Jvm.MethodName) prog_1_method_22_code (2 : Nat) (Option.some Jvm.ClassFile.FieldType.int)),
  (Jvm.Cond.methodLink "TraceAligner" (192 : Nat) ({ cls := "TraceAligner", name := "alignedTrace", desc := "(I)LTraceAligner$Trace;" } : Jvm.MethodName)),
  (Jvm.Cond.instanceMethod ({ cls := "TraceAligner", name := "alignedTrace", desc := "(I)LTraceAligner$Trace;" } : Jvm.MethodName)),
  (Jvm.Cond.code ({ cls := "TraceAligner", name := "alignedTrace", desc := "(I)LTraceAligner$Trace;" } : Jvm.MethodName) prog_1_method_42_code (2 : Nat) (Option.some (Jvm.ClassFile.FieldType.object "TraceAligner$Trace"))),
  (Jvm.Cond.methodLink "TraceAlignerLaw" (182 : Nat) ({ cls := "TraceAlignerLaw", name := "moves", desc := "(LTraceAligner;I[J)I" } : Jvm.MethodName)),
  (Jvm.Cond.static ({ cls := "TraceAlignerLaw", name := "moves", desc := "(LTraceAligner;I[J)I" } : Jvm.MethodName)),
  (Jvm.Cond.codeWith ({ cls := "TraceAlignerLaw", name := "moves", desc := "(LTraceAligner;I[J)I" } : Jvm.MethodName) method_23_code (4 : Nat) (Option.some Jvm.ClassFile.FieldType.int) [((0 : Nat), (9 : Nat), (12 : Nat), (25 : Nat)), ((0 : Nat), (9 : Nat), (15 : Nat), (13 : Nat))]),
  (Jvm.Cond.methodLink "TraceAlignerLaw" (80 : Nat) ({ cls := "TraceAligner", name := "moves", desc := "(I)I" } : Jvm.MethodName)),
  (Jvm.Cond.instanceMethod ({ cls := "TraceAligner", name := "moves", desc := "(I)I" } : Jvm.MethodName)),
  (Jvm.Cond.selects "TraceAligner" ({ cls := "TraceAligner", name := "moves", desc := "(I)I" } : Jvm.MethodName) ({ cls := "TraceAligner", name := "moves", desc := "(I)I" } : Jvm.MethodName))]
set_option maxRecDepth 100000 in
def am_big_14 : List Jvm.Cond := [
  (Jvm.Cond.code ({ cls := "TraceAligner", name := "moves", desc := "(I)I" } : Jvm.MethodName) prog_1_method_23_code (2 : Nat) (Option.some Jvm.ClassFile.FieldType.int)),
  (Jvm.Cond.methodLink "TraceAlignerLaw" (185 : Nat) ({ cls := "TraceAlignerLaw", name := "move", desc := "(LTraceAligner;III[J)I" } : Jvm.MethodName)),
  (Jvm.Cond.static ({ cls := "TraceAlignerLaw", name := "move", desc := "(LTraceAligner;III[J)I" } : Jvm.MethodName)),
  (Jvm.Cond.codeWith ({ cls := "TraceAlignerLaw", name := "move", desc := "(LTraceAligner;III[J)I" } : Jvm.MethodName) method_24_code (6 : Nat) (Option.some Jvm.ClassFile.FieldType.int) [((0 : Nat), (12 : Nat), (15 : Nat), (25 : Nat)), ((0 : Nat), (12 : Nat), (19 : Nat), (13 : Nat)), ((0 : Nat), (12 : Nat), (23 : Nat), (19 : Nat))]),
  (Jvm.Cond.methodLink "TraceAlignerLaw" (83 : Nat) ({ cls := "TraceAligner", name := "move", desc := "(III)I" } : Jvm.MethodName)),
  (Jvm.Cond.instanceMethod ({ cls := "TraceAligner", name := "move", desc := "(III)I" } : Jvm.MethodName)),
  (Jvm.Cond.selects "TraceAligner" ({ cls := "TraceAligner", name := "move", desc := "(III)I" } : Jvm.MethodName) ({ cls := "TraceAligner", name := "move", desc := "(III)I" } : Jvm.MethodName)),
  (Jvm.Cond.code ({ cls := "TraceAligner", name := "move", desc := "(III)I" } : Jvm.MethodName) prog_1_method_24_code (6 : Nat) (Option.some Jvm.ClassFile.FieldType.int)),
  (Jvm.Cond.methodLink "TraceAligner" (207 : Nat) ({ cls := "TraceAligner", name := "kindOf", desc := "(I)I" } : Jvm.MethodName)),
  (Jvm.Cond.static ({ cls := "TraceAligner", name := "kindOf", desc := "(I)I" } : Jvm.MethodName)),
  (Jvm.Cond.code ({ cls := "TraceAligner", name := "kindOf", desc := "(I)I" } : Jvm.MethodName) prog_1_method_49_code (1 : Nat) (Option.some Jvm.ClassFile.FieldType.int)),
  (Jvm.Cond.methodLink "TraceAligner" (210 : Nat) ({ cls := "TraceAligner", name := "transitionOf", desc := "(I)I" } : Jvm.MethodName)),
  (Jvm.Cond.methodLink "TraceAligner" (213 : Nat) ({ cls := "TraceAligner", name := "labelOf", desc := "(I)I" } : Jvm.MethodName)),
  (Jvm.Cond.methodLink "TraceAligner" (216 : Nat) ({ cls := "TraceAligner", name := "markingOf", desc := "(I)I" } : Jvm.MethodName)),
  (Jvm.Cond.static ({ cls := "TraceAligner", name := "markingOf", desc := "(I)I" } : Jvm.MethodName)),
  (Jvm.Cond.code ({ cls := "TraceAligner", name := "markingOf", desc := "(I)I" } : Jvm.MethodName) prog_1_method_52_code (1 : Nat) (Option.some Jvm.ClassFile.FieldType.int)),
  (Jvm.Cond.methodLink "TraceAlignerLaw" (189 : Nat) ({ cls := "TraceAlignerLaw", name := "worst", desc := "(LTraceAligner;I[J)I" } : Jvm.MethodName)),
  (Jvm.Cond.static ({ cls := "TraceAlignerLaw", name := "worst", desc := "(LTraceAligner;I[J)I" } : Jvm.MethodName)),
  (Jvm.Cond.codeWith ({ cls := "TraceAlignerLaw", name := "worst", desc := "(LTraceAligner;I[J)I" } : Jvm.MethodName) method_25_code (4 : Nat) (Option.some Jvm.ClassFile.FieldType.int) [((0 : Nat), (9 : Nat), (12 : Nat), (25 : Nat)), ((0 : Nat), (9 : Nat), (15 : Nat), (13 : Nat))]),
  (Jvm.Cond.methodLink "TraceAlignerLaw" (87 : Nat) ({ cls := "TraceAligner", name := "worst", desc := "(I)I" } : Jvm.MethodName)),
  (Jvm.Cond.instanceMethod ({ cls := "TraceAligner", name := "worst", desc := "(I)I" } : Jvm.MethodName)),
  (Jvm.Cond.selects "TraceAligner" ({ cls := "TraceAligner", name := "worst", desc := "(I)I" } : Jvm.MethodName) ({ cls := "TraceAligner", name := "worst", desc := "(I)I" } : Jvm.MethodName)),
  (Jvm.Cond.code ({ cls := "TraceAligner", name := "worst", desc := "(I)I" } : Jvm.MethodName) prog_1_method_25_code (2 : Nat) (Option.some Jvm.ClassFile.FieldType.int)),
  (Jvm.Cond.methodLink "TraceAlignerLaw" (192 : Nat) ({ cls := "TraceAlignerLaw", name := "fitness", desc := "(LTraceAligner;I[D)I" } : Jvm.MethodName)),
  (Jvm.Cond.static ({ cls := "TraceAlignerLaw", name := "fitness", desc := "(LTraceAligner;I[D)I" } : Jvm.MethodName)),
  (Jvm.Cond.codeWith ({ cls := "TraceAlignerLaw", name := "fitness", desc := "(LTraceAligner;I[D)I" } : Jvm.MethodName) method_26_code (4 : Nat) (Option.some Jvm.ClassFile.FieldType.int) [((0 : Nat), (8 : Nat), (11 : Nat), (25 : Nat)), ((0 : Nat), (8 : Nat), (14 : Nat), (13 : Nat))]),
  (Jvm.Cond.methodLink "TraceAlignerLaw" (90 : Nat) ({ cls := "TraceAligner", name := "fitness", desc := "(I)D" } : Jvm.MethodName)),
  (Jvm.Cond.instanceMethod ({ cls := "TraceAligner", name := "fitness", desc := "(I)D" } : Jvm.MethodName)),
  (Jvm.Cond.selects "TraceAligner" ({ cls := "TraceAligner", name := "fitness", desc := "(I)D" } : Jvm.MethodName) ({ cls := "TraceAligner", name := "fitness", desc := "(I)D" } : Jvm.MethodName)),
  (Jvm.Cond.code ({ cls := "TraceAligner", name := "fitness", desc := "(I)D" } : Jvm.MethodName) prog_1_method_26_code (3 : Nat) (Option.some Jvm.ClassFile.FieldType.double)),
  (Jvm.Cond.methodLink "TraceAligner" (224 : Nat) ({ cls := "TraceAligner$Trace", name := "hasNoAlignment", desc := "()Z" } : Jvm.MethodName)),
  (Jvm.Cond.instanceMethod ({ cls := "TraceAligner$Trace", name := "hasNoAlignment", desc := "()Z" } : Jvm.MethodName)),
  (Jvm.Cond.selects "TraceAligner$Trace" ({ cls := "TraceAligner$Trace", name := "hasNoAlignment", desc := "()Z" } : Jvm.MethodName) ({ cls := "TraceAligner$Trace", name := "hasNoAlignment", desc := "()Z" } : Jvm.MethodName)),
  (Jvm.Cond.code ({ cls := "TraceAligner$Trace", name := "hasNoAlignment", desc := "()Z" } : Jvm.MethodName) prog_5_method_3_code (1 : Nat) (Option.some Jvm.ClassFile.FieldType.boolean)),
  (Jvm.Cond.methodLink "TraceAligner" (228 : Nat) ({ cls := "TraceAligner", name := "fitnessOf", desc := "(II)D" } : Jvm.MethodName)),
  (Jvm.Cond.static ({ cls := "TraceAligner", name := "fitnessOf", desc := "(II)D" } : Jvm.MethodName)),
  (Jvm.Cond.code ({ cls := "TraceAligner", name := "fitnessOf", desc := "(II)D" } : Jvm.MethodName) prog_1_method_43_code (2 : Nat) (Option.some Jvm.ClassFile.FieldType.double)),
  (Jvm.Cond.methodLink "TraceAlignerLaw" (196 : Nat) ({ cls := "TraceAlignerLaw", name := "total", desc := "(LTraceAligner;II[J)I" } : Jvm.MethodName)),
  (Jvm.Cond.static ({ cls := "TraceAlignerLaw", name := "total", desc := "(LTraceAligner;II[J)I" } : Jvm.MethodName)),
  (Jvm.Cond.codeWith ({ cls := "TraceAlignerLaw", name := "total", desc := "(LTraceAligner;II[J)I" } : Jvm.MethodName) method_27_code (5 : Nat) (Option.some Jvm.ClassFile.FieldType.int) [((0 : Nat), (10 : Nat), (13 : Nat), (25 : Nat)), ((0 : Nat), (10 : Nat), (17 : Nat), (13 : Nat))])]
set_option maxRecDepth 100000 in
def am_big_15 : List Jvm.Cond := [
  (Jvm.Cond.methodLink "TraceAlignerLaw" (94 : Nat) ({ cls := "TraceAligner", name := "total", desc := "(II)I" } : Jvm.MethodName)),
  (Jvm.Cond.instanceMethod ({ cls := "TraceAligner", name := "total", desc := "(II)I" } : Jvm.MethodName)),
  (Jvm.Cond.selects "TraceAligner" ({ cls := "TraceAligner", name := "total", desc := "(II)I" } : Jvm.MethodName) ({ cls := "TraceAligner", name := "total", desc := "(II)I" } : Jvm.MethodName)),
  (Jvm.Cond.code ({ cls := "TraceAligner", name := "total", desc := "(II)I" } : Jvm.MethodName) prog_1_method_27_code (5 : Nat) (Option.some Jvm.ClassFile.FieldType.int)),
  (Jvm.Cond.methodLink "TraceAligner" (243 : Nat) ({ cls := "TraceAligner$Trace", name := "countMoves", desc := "(II)I" } : Jvm.MethodName)),
  (Jvm.Cond.instanceMethod ({ cls := "TraceAligner$Trace", name := "countMoves", desc := "(II)I" } : Jvm.MethodName)),
  (Jvm.Cond.selects "TraceAligner$Trace" ({ cls := "TraceAligner$Trace", name := "countMoves", desc := "(II)I" } : Jvm.MethodName) ({ cls := "TraceAligner$Trace", name := "countMoves", desc := "(II)I" } : Jvm.MethodName)),
  (Jvm.Cond.code ({ cls := "TraceAligner$Trace", name := "countMoves", desc := "(II)I" } : Jvm.MethodName) prog_5_method_6_code (7 : Nat) (Option.some Jvm.ClassFile.FieldType.int)),
  (Jvm.Cond.methodLink "TraceAlignerLaw" (199 : Nat) ({ cls := "TraceAlignerLaw", name := "allFitness", desc := "(LTraceAligner;[D)I" } : Jvm.MethodName)),
  (Jvm.Cond.static ({ cls := "TraceAlignerLaw", name := "allFitness", desc := "(LTraceAligner;[D)I" } : Jvm.MethodName)),
  (Jvm.Cond.codeWith ({ cls := "TraceAlignerLaw", name := "allFitness", desc := "(LTraceAligner;[D)I" } : Jvm.MethodName) method_28_code (3 : Nat) (Option.some Jvm.ClassFile.FieldType.int) [((0 : Nat), (7 : Nat), (10 : Nat), (13 : Nat))]),
  (Jvm.Cond.methodLink "TraceAlignerLaw" (97 : Nat) ({ cls := "TraceAligner", name := "allFitness", desc := "()D" } : Jvm.MethodName)),
  (Jvm.Cond.instanceMethod ({ cls := "TraceAligner", name := "allFitness", desc := "()D" } : Jvm.MethodName)),
  (Jvm.Cond.selects "TraceAligner" ({ cls := "TraceAligner", name := "allFitness", desc := "()D" } : Jvm.MethodName) ({ cls := "TraceAligner", name := "allFitness", desc := "()D" } : Jvm.MethodName)),
  (Jvm.Cond.code ({ cls := "TraceAligner", name := "allFitness", desc := "()D" } : Jvm.MethodName) prog_1_method_28_code (4 : Nat) (Option.some Jvm.ClassFile.FieldType.double)),
  (Jvm.Cond.methodLink "TraceAlignerLaw" (203 : Nat) ({ cls := "TraceAlignerLaw", name := "precision", desc := "(LTraceAligner;[D)I" } : Jvm.MethodName)),
  (Jvm.Cond.static ({ cls := "TraceAlignerLaw", name := "precision", desc := "(LTraceAligner;[D)I" } : Jvm.MethodName)),
  (Jvm.Cond.codeWith ({ cls := "TraceAlignerLaw", name := "precision", desc := "(LTraceAligner;[D)I" } : Jvm.MethodName) method_29_code (3 : Nat) (Option.some Jvm.ClassFile.FieldType.int) [((0 : Nat), (7 : Nat), (10 : Nat), (13 : Nat))]),
  (Jvm.Cond.methodLink "TraceAlignerLaw" (101 : Nat) ({ cls := "TraceAligner", name := "precision", desc := "()D" } : Jvm.MethodName)),
  (Jvm.Cond.instanceMethod ({ cls := "TraceAligner", name := "precision", desc := "()D" } : Jvm.MethodName)),
  (Jvm.Cond.selects "TraceAligner" ({ cls := "TraceAligner", name := "precision", desc := "()D" } : Jvm.MethodName) ({ cls := "TraceAligner", name := "precision", desc := "()D" } : Jvm.MethodName)),
  (Jvm.Cond.code ({ cls := "TraceAligner", name := "precision", desc := "()D" } : Jvm.MethodName) prog_1_method_29_code (4 : Nat) (Option.some Jvm.ClassFile.FieldType.double)),
  (Jvm.Cond.methodLink "TraceAligner" (246 : Nat) ({ cls := "TraceAligner", name := "collectFired", desc := "()V" } : Jvm.MethodName)),
  (Jvm.Cond.instanceMethod ({ cls := "TraceAligner", name := "collectFired", desc := "()V" } : Jvm.MethodName)),
  (Jvm.Cond.code ({ cls := "TraceAligner", name := "collectFired", desc := "()V" } : Jvm.MethodName) prog_1_method_44_code (2 : Nat) (Option.none : Option Jvm.ClassFile.FieldType)),
  (Jvm.Cond.methodLink "TraceAligner" (284 : Nat) ({ cls := "TraceAligner$Trace", name := "addFired", desc := "([I)V" } : Jvm.MethodName)),
  (Jvm.Cond.instanceMethod ({ cls := "TraceAligner$Trace", name := "addFired", desc := "([I)V" } : Jvm.MethodName)),
  (Jvm.Cond.selects "TraceAligner$Trace" ({ cls := "TraceAligner$Trace", name := "addFired", desc := "([I)V" } : Jvm.MethodName) ({ cls := "TraceAligner$Trace", name := "addFired", desc := "([I)V" } : Jvm.MethodName)),
  (Jvm.Cond.code ({ cls := "TraceAligner$Trace", name := "addFired", desc := "([I)V" } : Jvm.MethodName) prog_5_method_7_code (3 : Nat) (Option.none : Option Jvm.ClassFile.FieldType)),
  (Jvm.Cond.methodLink "TraceAligner" (249 : Nat) ({ cls := "TraceAligner", name := "visitedSize", desc := "(LTraceAligner$Trace;[I)I" } : Jvm.MethodName)),
  (Jvm.Cond.instanceMethod ({ cls := "TraceAligner", name := "visitedSize", desc := "(LTraceAligner$Trace;[I)I" } : Jvm.MethodName)),
  (Jvm.Cond.code ({ cls := "TraceAligner", name := "visitedSize", desc := "(LTraceAligner$Trace;[I)I" } : Jvm.MethodName) prog_1_method_45_code (5 : Nat) (Option.some Jvm.ClassFile.FieldType.int)),
  (Jvm.Cond.methodLink "TraceAligner" (288 : Nat) ({ cls := "java/lang/Integer", name := "bitCount", desc := "(I)I" } : Jvm.MethodName)),
  (Jvm.Cond.static ({ cls := "java/lang/Integer", name := "bitCount", desc := "(I)I" } : Jvm.MethodName)),
  (Jvm.Cond.code ({ cls := "java/lang/Integer", name := "bitCount", desc := "(I)I" } : Jvm.MethodName) prog_12_method_49_code (1 : Nat) (Option.some Jvm.ClassFile.FieldType.int)),
  (Jvm.Cond.classLink "TraceAlignerLaw" (105 : Nat) "TraceAlignerModel"),
  (Jvm.Cond.instantiable "TraceAlignerModel" (29 : Nat)),
  (Jvm.Cond.methodLink "TraceAlignerLaw" (107 : Nat) ({ cls := "TraceAlignerModel", name := "<init>", desc := "()V" } : Jvm.MethodName)),
  (Jvm.Cond.instanceMethod ({ cls := "TraceAlignerModel", name := "<init>", desc := "()V" } : Jvm.MethodName)),
  (Jvm.Cond.code ({ cls := "TraceAlignerModel", name := "<init>", desc := "()V" } : Jvm.MethodName) prog_7_method_1_code (1 : Nat) (Option.none : Option Jvm.ClassFile.FieldType))]
set_option maxRecDepth 100000 in
def am_big_16 : List Jvm.Cond := [
  (Jvm.Cond.methodLink "TraceAlignerModel" (3 : Nat) ({ cls := "java/lang/Object", name := "<init>", desc := "()V" } : Jvm.MethodName)),
  (Jvm.Cond.fieldLink "TraceAlignerModel" (57 : Nat) "TraceAlignerModel" "thrown" "I"),
  (Jvm.Cond.fieldLink "TraceAlignerModel" (61 : Nat) "TraceAlignerModel" "places" "I"),
  (Jvm.Cond.fieldLink "TraceAlignerModel" (68 : Nat) "TraceAlignerModel" "transitions" "I"),
  (Jvm.Cond.fieldLink "TraceAlignerModel" (11 : Nat) "TraceAlignerModel" "labels" "[I"),
  (Jvm.Cond.fieldLink "TraceAlignerModel" (15 : Nat) "TraceAlignerModel" "costs" "[I"),
  (Jvm.Cond.fieldLink "TraceAlignerModel" (18 : Nat) "TraceAlignerModel" "inputs" "[I"),
  (Jvm.Cond.fieldLink "TraceAlignerModel" (21 : Nat) "TraceAlignerModel" "outputs" "[I"),
  (Jvm.Cond.fieldLink "TraceAlignerModel" (99 : Nat) "TraceAlignerModel" "first" "I"),
  (Jvm.Cond.fieldLink "TraceAlignerModel" (96 : Nat) "TraceAlignerModel" "wanted" "I"),
  (Jvm.Cond.fieldLink "TraceAlignerModel" (24 : Nat) "TraceAlignerModel" "labelCosts" "[I"),
  (Jvm.Cond.fieldLink "TraceAlignerModel" (127 : Nat) "TraceAlignerModel" "buffered" "I"),
  (Jvm.Cond.fieldLink "TraceAlignerModel" (27 : Nat) "TraceAlignerModel" "buffer" "[I"),
  (Jvm.Cond.fieldLink "TraceAlignerModel" (71 : Nat) "TraceAlignerModel" "traces" "I"),
  (Jvm.Cond.fieldLink "TraceAlignerModel" (30 : Nat) "TraceAlignerModel" "times" "[I"),
  (Jvm.Cond.fieldLink "TraceAlignerModel" (33 : Nat) "TraceAlignerModel" "lengths" "[I"),
  (Jvm.Cond.fieldLink "TraceAlignerModel" (36 : Nat) "TraceAlignerModel" "events" "[I"),
  (Jvm.Cond.fieldLink "TraceAlignerModel" (78 : Nat) "TraceAlignerModel" "isKnown" "Z"),
  (Jvm.Cond.fieldLink "TraceAlignerModel" (109 : Nat) "TraceAlignerModel" "areTooMany" "Z"),
  (Jvm.Cond.fieldLink "TraceAlignerModel" (106 : Nat) "TraceAlignerModel" "markings" "I"),
  (Jvm.Cond.fieldLink "TraceAlignerModel" (39 : Nat) "TraceAlignerModel" "all" "[I"),
  (Jvm.Cond.fieldLink "TraceAlignerModel" (42 : Nat) "TraceAlignerModel" "nexts" "[I"),
  (Jvm.Cond.fieldLink "TraceAlignerModel" (45 : Nat) "TraceAlignerModel" "weights" "[I"),
  (Jvm.Cond.fieldLink "TraceAlignerModel" (133 : Nat) "TraceAlignerModel" "row" "I"),
  (Jvm.Cond.fieldLink "TraceAlignerModel" (136 : Nat) "TraceAlignerModel" "size" "I"),
  (Jvm.Cond.fieldLink "TraceAlignerModel" (165 : Nat) "TraceAlignerModel" "moves" "I"),
  (Jvm.Cond.fieldLink "TraceAlignerModel" (48 : Nat) "TraceAlignerModel" "kinds" "[I"),
  (Jvm.Cond.fieldLink "TraceAlignerModel" (51 : Nat) "TraceAlignerModel" "fired" "[I"),
  (Jvm.Cond.fieldLink "TraceAlignerModel" (54 : Nat) "TraceAlignerModel" "ahead" "[I"),
  (Jvm.Cond.fieldLink "TraceAlignerModel" (162 : Nat) "TraceAlignerModel" "end" "I"),
  (Jvm.Cond.lays "TraceAlignerModel" "TraceAlignerModel" "thrown" "I"),
  (Jvm.Cond.lays "TraceAlignerModel" "TraceAlignerModel" "places" "I"),
  (Jvm.Cond.lays "TraceAlignerModel" "TraceAlignerModel" "transitions" "I"),
  (Jvm.Cond.laysFinal "TraceAlignerModel" "TraceAlignerModel" "labels" "[I"),
  (Jvm.Cond.laysFinal "TraceAlignerModel" "TraceAlignerModel" "costs" "[I"),
  (Jvm.Cond.laysFinal "TraceAlignerModel" "TraceAlignerModel" "inputs" "[I"),
  (Jvm.Cond.laysFinal "TraceAlignerModel" "TraceAlignerModel" "outputs" "[I"),
  (Jvm.Cond.lays "TraceAlignerModel" "TraceAlignerModel" "first" "I"),
  (Jvm.Cond.lays "TraceAlignerModel" "TraceAlignerModel" "wanted" "I"),
  (Jvm.Cond.laysFinal "TraceAlignerModel" "TraceAlignerModel" "labelCosts" "[I")]
set_option maxRecDepth 100000 in
def am_big_17 : List Jvm.Cond := [
  (Jvm.Cond.lays "TraceAlignerModel" "TraceAlignerModel" "buffered" "I"),
  (Jvm.Cond.laysFinal "TraceAlignerModel" "TraceAlignerModel" "buffer" "[I"),
  (Jvm.Cond.lays "TraceAlignerModel" "TraceAlignerModel" "traces" "I"),
  (Jvm.Cond.laysFinal "TraceAlignerModel" "TraceAlignerModel" "times" "[I"),
  (Jvm.Cond.laysFinal "TraceAlignerModel" "TraceAlignerModel" "lengths" "[I"),
  (Jvm.Cond.laysFinal "TraceAlignerModel" "TraceAlignerModel" "events" "[I"),
  (Jvm.Cond.lays "TraceAlignerModel" "TraceAlignerModel" "isKnown" "Z"),
  (Jvm.Cond.lays "TraceAlignerModel" "TraceAlignerModel" "areTooMany" "Z"),
  (Jvm.Cond.lays "TraceAlignerModel" "TraceAlignerModel" "markings" "I"),
  (Jvm.Cond.laysFinal "TraceAlignerModel" "TraceAlignerModel" "all" "[I"),
  (Jvm.Cond.laysFinal "TraceAlignerModel" "TraceAlignerModel" "nexts" "[I"),
  (Jvm.Cond.laysFinal "TraceAlignerModel" "TraceAlignerModel" "weights" "[I"),
  (Jvm.Cond.lays "TraceAlignerModel" "TraceAlignerModel" "row" "I"),
  (Jvm.Cond.lays "TraceAlignerModel" "TraceAlignerModel" "size" "I"),
  (Jvm.Cond.lays "TraceAlignerModel" "TraceAlignerModel" "moves" "I"),
  (Jvm.Cond.laysFinal "TraceAlignerModel" "TraceAlignerModel" "kinds" "[I"),
  (Jvm.Cond.laysFinal "TraceAlignerModel" "TraceAlignerModel" "fired" "[I"),
  (Jvm.Cond.laysFinal "TraceAlignerModel" "TraceAlignerModel" "ahead" "[I"),
  (Jvm.Cond.lays "TraceAlignerModel" "TraceAlignerModel" "end" "I"),
  (Jvm.Cond.superclass "TraceAlignerModel" "java/lang/Object"),
  (Jvm.Cond.methodLink "TraceAlignerLaw" (114 : Nat) ({ cls := "TraceAlignerModel", name := "thrown", desc := "()I" } : Jvm.MethodName)),
  (Jvm.Cond.instanceMethod ({ cls := "TraceAlignerModel", name := "thrown", desc := "()I" } : Jvm.MethodName)),
  (Jvm.Cond.selects "TraceAlignerModel" ({ cls := "TraceAlignerModel", name := "thrown", desc := "()I" } : Jvm.MethodName) ({ cls := "TraceAlignerModel", name := "thrown", desc := "()I" } : Jvm.MethodName)),
  (Jvm.Cond.code ({ cls := "TraceAlignerModel", name := "thrown", desc := "()I" } : Jvm.MethodName) prog_7_method_2_code (1 : Nat) (Option.some Jvm.ClassFile.FieldType.int)),
  (Jvm.Cond.methodLink "TraceAlignerLaw" (113 : Nat) ({ cls := "TraceAlignerModel", name := "addPlace", desc := "()I" } : Jvm.MethodName)),
  (Jvm.Cond.instanceMethod ({ cls := "TraceAlignerModel", name := "addPlace", desc := "()I" } : Jvm.MethodName)),
  (Jvm.Cond.selects "TraceAlignerModel" ({ cls := "TraceAlignerModel", name := "addPlace", desc := "()I" } : Jvm.MethodName) ({ cls := "TraceAlignerModel", name := "addPlace", desc := "()I" } : Jvm.MethodName)),
  (Jvm.Cond.code ({ cls := "TraceAlignerModel", name := "addPlace", desc := "()I" } : Jvm.MethodName) prog_7_method_10_code (1 : Nat) (Option.some Jvm.ClassFile.FieldType.int)),
  (Jvm.Cond.methodLink "TraceAlignerModel" (74 : Nat) ({ cls := "TraceAlignerModel", name := "no", desc := "(I)I" } : Jvm.MethodName)),
  (Jvm.Cond.instanceMethod ({ cls := "TraceAlignerModel", name := "no", desc := "(I)I" } : Jvm.MethodName)),
  (Jvm.Cond.code ({ cls := "TraceAlignerModel", name := "no", desc := "(I)I" } : Jvm.MethodName) prog_7_method_3_code (2 : Nat) (Option.some Jvm.ClassFile.FieldType.int)),
  (Jvm.Cond.methodLink "TraceAlignerLaw" (120 : Nat) ({ cls := "TraceAlignerModel", name := "addTransition", desc := "(I)I" } : Jvm.MethodName)),
  (Jvm.Cond.instanceMethod ({ cls := "TraceAlignerModel", name := "addTransition", desc := "(I)I" } : Jvm.MethodName)),
  (Jvm.Cond.selects "TraceAlignerModel" ({ cls := "TraceAlignerModel", name := "addTransition", desc := "(I)I" } : Jvm.MethodName) ({ cls := "TraceAlignerModel", name := "addTransition", desc := "(I)I" } : Jvm.MethodName)),
  (Jvm.Cond.code ({ cls := "TraceAlignerModel", name := "addTransition", desc := "(I)I" } : Jvm.MethodName) prog_7_method_11_code (2 : Nat) (Option.some Jvm.ClassFile.FieldType.int)),
  (Jvm.Cond.methodLink "TraceAlignerModel" (82 : Nat) ({ cls := "TraceAlignerModel", name := "isLabel", desc := "(I)Z" } : Jvm.MethodName)),
  (Jvm.Cond.static ({ cls := "TraceAlignerModel", name := "isLabel", desc := "(I)Z" } : Jvm.MethodName)),
  (Jvm.Cond.code ({ cls := "TraceAlignerModel", name := "isLabel", desc := "(I)Z" } : Jvm.MethodName) prog_7_method_9_code (1 : Nat) (Option.some Jvm.ClassFile.FieldType.boolean)),
  (Jvm.Cond.methodLink "TraceAlignerModel" (64 : Nat) ({ cls := "TraceAlignerModel", name := "isIn", desc := "(III)Z" } : Jvm.MethodName)),
  (Jvm.Cond.static ({ cls := "TraceAlignerModel", name := "isIn", desc := "(III)Z" } : Jvm.MethodName))]
set_option maxRecDepth 100000 in
def am_big_18 : List Jvm.Cond := [
  (Jvm.Cond.code ({ cls := "TraceAlignerModel", name := "isIn", desc := "(III)Z" } : Jvm.MethodName) prog_7_method_4_code (3 : Nat) (Option.some Jvm.ClassFile.FieldType.boolean)),
  (Jvm.Cond.methodLink "TraceAlignerLaw" (124 : Nat) ({ cls := "TraceAlignerModel", name := "link", desc := "(IIZZ)Z" } : Jvm.MethodName)),
  (Jvm.Cond.instanceMethod ({ cls := "TraceAlignerModel", name := "link", desc := "(IIZZ)Z" } : Jvm.MethodName)),
  (Jvm.Cond.selects "TraceAlignerModel" ({ cls := "TraceAlignerModel", name := "link", desc := "(IIZZ)Z" } : Jvm.MethodName) ({ cls := "TraceAlignerModel", name := "link", desc := "(IIZZ)Z" } : Jvm.MethodName)),
  (Jvm.Cond.code ({ cls := "TraceAlignerModel", name := "link", desc := "(IIZZ)Z" } : Jvm.MethodName) prog_7_method_12_code (7 : Nat) (Option.some Jvm.ClassFile.FieldType.boolean)),
  (Jvm.Cond.methodLink "TraceAlignerModel" (86 : Nat) ({ cls := "TraceAlignerModel", name := "isTransition", desc := "(I)Z" } : Jvm.MethodName)),
  (Jvm.Cond.instanceMethod ({ cls := "TraceAlignerModel", name := "isTransition", desc := "(I)Z" } : Jvm.MethodName)),
  (Jvm.Cond.code ({ cls := "TraceAlignerModel", name := "isTransition", desc := "(I)Z" } : Jvm.MethodName) prog_7_method_7_code (2 : Nat) (Option.some Jvm.ClassFile.FieldType.boolean)),
  (Jvm.Cond.methodLink "TraceAlignerModel" (89 : Nat) ({ cls := "TraceAlignerModel", name := "isPlace", desc := "(I)Z" } : Jvm.MethodName)),
  (Jvm.Cond.instanceMethod ({ cls := "TraceAlignerModel", name := "isPlace", desc := "(I)Z" } : Jvm.MethodName)),
  (Jvm.Cond.code ({ cls := "TraceAlignerModel", name := "isPlace", desc := "(I)Z" } : Jvm.MethodName) prog_7_method_6_code (2 : Nat) (Option.some Jvm.ClassFile.FieldType.boolean)),
  (Jvm.Cond.methodLink "TraceAlignerModel" (92 : Nat) ({ cls := "TraceAlignerModel", name := "has", desc := "(II)Z" } : Jvm.MethodName)),
  (Jvm.Cond.static ({ cls := "TraceAlignerModel", name := "has", desc := "(II)Z" } : Jvm.MethodName)),
  (Jvm.Cond.code ({ cls := "TraceAlignerModel", name := "has", desc := "(II)Z" } : Jvm.MethodName) prog_7_method_5_code (2 : Nat) (Option.some Jvm.ClassFile.FieldType.boolean)),
  (Jvm.Cond.methodLink "TraceAlignerLaw" (128 : Nat) ({ cls := "TraceAlignerModel", name := "setTokens", desc := "(IIZ)I" } : Jvm.MethodName)),
  (Jvm.Cond.instanceMethod ({ cls := "TraceAlignerModel", name := "setTokens", desc := "(IIZ)I" } : Jvm.MethodName)),
  (Jvm.Cond.selects "TraceAlignerModel" ({ cls := "TraceAlignerModel", name := "setTokens", desc := "(IIZ)I" } : Jvm.MethodName) ({ cls := "TraceAlignerModel", name := "setTokens", desc := "(IIZ)I" } : Jvm.MethodName)),
  (Jvm.Cond.code ({ cls := "TraceAlignerModel", name := "setTokens", desc := "(IIZ)I" } : Jvm.MethodName) prog_7_method_14_code (6 : Nat) (Option.some Jvm.ClassFile.FieldType.int)),
  (Jvm.Cond.methodLink "TraceAlignerModel" (102 : Nat) ({ cls := "TraceAlignerModel", name := "tokensIn", desc := "(II)I" } : Jvm.MethodName)),
  (Jvm.Cond.static ({ cls := "TraceAlignerModel", name := "tokensIn", desc := "(II)I" } : Jvm.MethodName)),
  (Jvm.Cond.code ({ cls := "TraceAlignerModel", name := "tokensIn", desc := "(II)I" } : Jvm.MethodName) prog_7_method_13_code (2 : Nat) (Option.some Jvm.ClassFile.FieldType.int)),
  (Jvm.Cond.methodLink "TraceAlignerLaw" (131 : Nat) ({ cls := "TraceAlignerModel", name := "count", desc := "(I)I" } : Jvm.MethodName)),
  (Jvm.Cond.instanceMethod ({ cls := "TraceAlignerModel", name := "count", desc := "(I)I" } : Jvm.MethodName)),
  (Jvm.Cond.selects "TraceAlignerModel" ({ cls := "TraceAlignerModel", name := "count", desc := "(I)I" } : Jvm.MethodName) ({ cls := "TraceAlignerModel", name := "count", desc := "(I)I" } : Jvm.MethodName)),
  (Jvm.Cond.code ({ cls := "TraceAlignerModel", name := "count", desc := "(I)I" } : Jvm.MethodName) prog_7_method_15_code (2 : Nat) (Option.some Jvm.ClassFile.FieldType.int)),
  (Jvm.Cond.methodLink "TraceAlignerLaw" (134 : Nat) ({ cls := "TraceAlignerModel", name := "label", desc := "(I)I" } : Jvm.MethodName)),
  (Jvm.Cond.instanceMethod ({ cls := "TraceAlignerModel", name := "label", desc := "(I)I" } : Jvm.MethodName)),
  (Jvm.Cond.selects "TraceAlignerModel" ({ cls := "TraceAlignerModel", name := "label", desc := "(I)I" } : Jvm.MethodName) ({ cls := "TraceAlignerModel", name := "label", desc := "(I)I" } : Jvm.MethodName)),
  (Jvm.Cond.code ({ cls := "TraceAlignerModel", name := "label", desc := "(I)I" } : Jvm.MethodName) prog_7_method_16_code (2 : Nat) (Option.some Jvm.ClassFile.FieldType.int)),
  (Jvm.Cond.methodLink "TraceAlignerLaw" (138 : Nat) ({ cls := "TraceAlignerModel", name := "markings", desc := "()I" } : Jvm.MethodName)),
  (Jvm.Cond.instanceMethod ({ cls := "TraceAlignerModel", name := "markings", desc := "()I" } : Jvm.MethodName)),
  (Jvm.Cond.selects "TraceAlignerModel" ({ cls := "TraceAlignerModel", name := "markings", desc := "()I" } : Jvm.MethodName) ({ cls := "TraceAlignerModel", name := "markings", desc := "()I" } : Jvm.MethodName)),
  (Jvm.Cond.code ({ cls := "TraceAlignerModel", name := "markings", desc := "()I" } : Jvm.MethodName) prog_7_method_20_code (1 : Nat) (Option.some Jvm.ClassFile.FieldType.int)),
  (Jvm.Cond.methodLink "TraceAlignerModel" (118 : Nat) ({ cls := "TraceAlignerModel", name := "look", desc := "()V" } : Jvm.MethodName)),
  (Jvm.Cond.instanceMethod ({ cls := "TraceAlignerModel", name := "look", desc := "()V" } : Jvm.MethodName)),
  (Jvm.Cond.code ({ cls := "TraceAlignerModel", name := "look", desc := "()V" } : Jvm.MethodName) prog_7_method_19_code (5 : Nat) (Option.none : Option Jvm.ClassFile.FieldType)),
  (Jvm.Cond.methodLink "TraceAlignerModel" (112 : Nat) ({ cls := "TraceAlignerModel", name := "fire", desc := "(II)I" } : Jvm.MethodName)),
  (Jvm.Cond.instanceMethod ({ cls := "TraceAlignerModel", name := "fire", desc := "(II)I" } : Jvm.MethodName)),
  (Jvm.Cond.code ({ cls := "TraceAlignerModel", name := "fire", desc := "(II)I" } : Jvm.MethodName) prog_7_method_17_code (6 : Nat) (Option.some Jvm.ClassFile.FieldType.int)),
  (Jvm.Cond.methodLink "TraceAlignerModel" (115 : Nat) ({ cls := "TraceAlignerModel", name := "numberOf", desc := "(I)I" } : Jvm.MethodName))]
set_option maxRecDepth 100000 in
def am_big_19 : List Jvm.Cond := [
  (Jvm.Cond.instanceMethod ({ cls := "TraceAlignerModel", name := "numberOf", desc := "(I)I" } : Jvm.MethodName)),
  (Jvm.Cond.code ({ cls := "TraceAlignerModel", name := "numberOf", desc := "(I)I" } : Jvm.MethodName) prog_7_method_18_code (3 : Nat) (Option.some Jvm.ClassFile.FieldType.int)),
  (Jvm.Cond.methodLink "TraceAlignerLaw" (142 : Nat) ({ cls := "TraceAlignerModel", name := "tokens", desc := "(II)I" } : Jvm.MethodName)),
  (Jvm.Cond.instanceMethod ({ cls := "TraceAlignerModel", name := "tokens", desc := "(II)I" } : Jvm.MethodName)),
  (Jvm.Cond.selects "TraceAlignerModel" ({ cls := "TraceAlignerModel", name := "tokens", desc := "(II)I" } : Jvm.MethodName) ({ cls := "TraceAlignerModel", name := "tokens", desc := "(II)I" } : Jvm.MethodName)),
  (Jvm.Cond.code ({ cls := "TraceAlignerModel", name := "tokens", desc := "(II)I" } : Jvm.MethodName) prog_7_method_22_code (3 : Nat) (Option.some Jvm.ClassFile.FieldType.int)),
  (Jvm.Cond.methodLink "TraceAlignerModel" (121 : Nat) ({ cls := "TraceAlignerModel", name := "asks", desc := "(I)Z" } : Jvm.MethodName)),
  (Jvm.Cond.instanceMethod ({ cls := "TraceAlignerModel", name := "asks", desc := "(I)Z" } : Jvm.MethodName)),
  (Jvm.Cond.code ({ cls := "TraceAlignerModel", name := "asks", desc := "(I)Z" } : Jvm.MethodName) prog_7_method_21_code (2 : Nat) (Option.some Jvm.ClassFile.FieldType.boolean)),
  (Jvm.Cond.methodLink "TraceAlignerLaw" (145 : Nat) ({ cls := "TraceAlignerModel", name := "enabled", desc := "(I)I" } : Jvm.MethodName)),
  (Jvm.Cond.instanceMethod ({ cls := "TraceAlignerModel", name := "enabled", desc := "(I)I" } : Jvm.MethodName)),
  (Jvm.Cond.selects "TraceAlignerModel" ({ cls := "TraceAlignerModel", name := "enabled", desc := "(I)I" } : Jvm.MethodName) ({ cls := "TraceAlignerModel", name := "enabled", desc := "(I)I" } : Jvm.MethodName)),
  (Jvm.Cond.code ({ cls := "TraceAlignerModel", name := "enabled", desc := "(I)I" } : Jvm.MethodName) prog_7_method_24_code (2 : Nat) (Option.some Jvm.ClassFile.FieldType.int)),
  (Jvm.Cond.methodLink "TraceAlignerModel" (124 : Nat) ({ cls := "TraceAlignerModel", name := "enabledIn", desc := "(I)I" } : Jvm.MethodName)),
  (Jvm.Cond.instanceMethod ({ cls := "TraceAlignerModel", name := "enabledIn", desc := "(I)I" } : Jvm.MethodName)),
  (Jvm.Cond.code ({ cls := "TraceAlignerModel", name := "enabledIn", desc := "(I)I" } : Jvm.MethodName) prog_7_method_23_code (4 : Nat) (Option.some Jvm.ClassFile.FieldType.int)),
  (Jvm.Cond.methodLink "TraceAlignerLaw" (148 : Nat) ({ cls := "TraceAlignerModel", name := "next", desc := "(II)I" } : Jvm.MethodName)),
  (Jvm.Cond.instanceMethod ({ cls := "TraceAlignerModel", name := "next", desc := "(II)I" } : Jvm.MethodName)),
  (Jvm.Cond.selects "TraceAlignerModel" ({ cls := "TraceAlignerModel", name := "next", desc := "(II)I" } : Jvm.MethodName) ({ cls := "TraceAlignerModel", name := "next", desc := "(II)I" } : Jvm.MethodName)),
  (Jvm.Cond.code ({ cls := "TraceAlignerModel", name := "next", desc := "(II)I" } : Jvm.MethodName) prog_7_method_25_code (3 : Nat) (Option.some Jvm.ClassFile.FieldType.int)),
  (Jvm.Cond.methodLink "TraceAlignerLaw" (151 : Nat) ({ cls := "TraceAlignerModel", name := "last", desc := "()I" } : Jvm.MethodName)),
  (Jvm.Cond.instanceMethod ({ cls := "TraceAlignerModel", name := "last", desc := "()I" } : Jvm.MethodName)),
  (Jvm.Cond.selects "TraceAlignerModel" ({ cls := "TraceAlignerModel", name := "last", desc := "()I" } : Jvm.MethodName) ({ cls := "TraceAlignerModel", name := "last", desc := "()I" } : Jvm.MethodName)),
  (Jvm.Cond.code ({ cls := "TraceAlignerModel", name := "last", desc := "()I" } : Jvm.MethodName) prog_7_method_26_code (1 : Nat) (Option.some Jvm.ClassFile.FieldType.int)),
  (Jvm.Cond.methodLink "TraceAlignerLaw" (154 : Nat) ({ cls := "TraceAlignerModel", name := "dead", desc := "()I" } : Jvm.MethodName)),
  (Jvm.Cond.instanceMethod ({ cls := "TraceAlignerModel", name := "dead", desc := "()I" } : Jvm.MethodName)),
  (Jvm.Cond.selects "TraceAlignerModel" ({ cls := "TraceAlignerModel", name := "dead", desc := "()I" } : Jvm.MethodName) ({ cls := "TraceAlignerModel", name := "dead", desc := "()I" } : Jvm.MethodName)),
  (Jvm.Cond.code ({ cls := "TraceAlignerModel", name := "dead", desc := "()I" } : Jvm.MethodName) prog_7_method_27_code (3 : Nat) (Option.some Jvm.ClassFile.FieldType.int)),
  (Jvm.Cond.methodLink "TraceAlignerLaw" (157 : Nat) ({ cls := "TraceAlignerModel", name := "live", desc := "()I" } : Jvm.MethodName)),
  (Jvm.Cond.instanceMethod ({ cls := "TraceAlignerModel", name := "live", desc := "()I" } : Jvm.MethodName)),
  (Jvm.Cond.selects "TraceAlignerModel" ({ cls := "TraceAlignerModel", name := "live", desc := "()I" } : Jvm.MethodName) ({ cls := "TraceAlignerModel", name := "live", desc := "()I" } : Jvm.MethodName)),
  (Jvm.Cond.code ({ cls := "TraceAlignerModel", name := "live", desc := "()I" } : Jvm.MethodName) prog_7_method_28_code (3 : Nat) (Option.some Jvm.ClassFile.FieldType.int)),
  (Jvm.Cond.methodLink "TraceAlignerLaw" (160 : Nat) ({ cls := "TraceAlignerModel", name := "away", desc := "(I)I" } : Jvm.MethodName)),
  (Jvm.Cond.instanceMethod ({ cls := "TraceAlignerModel", name := "away", desc := "(I)I" } : Jvm.MethodName)),
  (Jvm.Cond.selects "TraceAlignerModel" ({ cls := "TraceAlignerModel", name := "away", desc := "(I)I" } : Jvm.MethodName) ({ cls := "TraceAlignerModel", name := "away", desc := "(I)I" } : Jvm.MethodName)),
  (Jvm.Cond.code ({ cls := "TraceAlignerModel", name := "away", desc := "(I)I" } : Jvm.MethodName) prog_7_method_29_code (8 : Nat) (Option.some Jvm.ClassFile.FieldType.int)),
  (Jvm.Cond.arrayClass Jvm.ClassFile.FieldType.boolean),
  (Jvm.Cond.methodLink "TraceAlignerLaw" (163 : Nat) ({ cls := "TraceAlignerModel", name := "event", desc := "(I)I" } : Jvm.MethodName)),
  (Jvm.Cond.instanceMethod ({ cls := "TraceAlignerModel", name := "event", desc := "(I)I" } : Jvm.MethodName)),
  (Jvm.Cond.selects "TraceAlignerModel" ({ cls := "TraceAlignerModel", name := "event", desc := "(I)I" } : Jvm.MethodName) ({ cls := "TraceAlignerModel", name := "event", desc := "(I)I" } : Jvm.MethodName))]
set_option maxRecDepth 100000 in
def am_big_20 : List Jvm.Cond := [
  (Jvm.Cond.code ({ cls := "TraceAlignerModel", name := "event", desc := "(I)I" } : Jvm.MethodName) prog_7_method_30_code (2 : Nat) (Option.some Jvm.ClassFile.FieldType.int)),
  (Jvm.Cond.methodLink "TraceAlignerLaw" (166 : Nat) ({ cls := "TraceAlignerModel", name := "store", desc := "(I)I" } : Jvm.MethodName)),
  (Jvm.Cond.instanceMethod ({ cls := "TraceAlignerModel", name := "store", desc := "(I)I" } : Jvm.MethodName)),
  (Jvm.Cond.selects "TraceAlignerModel" ({ cls := "TraceAlignerModel", name := "store", desc := "(I)I" } : Jvm.MethodName) ({ cls := "TraceAlignerModel", name := "store", desc := "(I)I" } : Jvm.MethodName)),
  (Jvm.Cond.code ({ cls := "TraceAlignerModel", name := "store", desc := "(I)I" } : Jvm.MethodName) prog_7_method_31_code (3 : Nat) (Option.some Jvm.ClassFile.FieldType.int)),
  (Jvm.Cond.methodLink "TraceAlignerLaw" (169 : Nat) ({ cls := "TraceAlignerModel", name := "dropTrace", desc := "()I" } : Jvm.MethodName)),
  (Jvm.Cond.instanceMethod ({ cls := "TraceAlignerModel", name := "dropTrace", desc := "()I" } : Jvm.MethodName)),
  (Jvm.Cond.selects "TraceAlignerModel" ({ cls := "TraceAlignerModel", name := "dropTrace", desc := "()I" } : Jvm.MethodName) ({ cls := "TraceAlignerModel", name := "dropTrace", desc := "()I" } : Jvm.MethodName)),
  (Jvm.Cond.code ({ cls := "TraceAlignerModel", name := "dropTrace", desc := "()I" } : Jvm.MethodName) prog_7_method_32_code (1 : Nat) (Option.some Jvm.ClassFile.FieldType.int)),
  (Jvm.Cond.methodLink "TraceAlignerLaw" (172 : Nat) ({ cls := "TraceAlignerModel", name := "length", desc := "(I)I" } : Jvm.MethodName)),
  (Jvm.Cond.instanceMethod ({ cls := "TraceAlignerModel", name := "length", desc := "(I)I" } : Jvm.MethodName)),
  (Jvm.Cond.selects "TraceAlignerModel" ({ cls := "TraceAlignerModel", name := "length", desc := "(I)I" } : Jvm.MethodName) ({ cls := "TraceAlignerModel", name := "length", desc := "(I)I" } : Jvm.MethodName)),
  (Jvm.Cond.code ({ cls := "TraceAlignerModel", name := "length", desc := "(I)I" } : Jvm.MethodName) prog_7_method_33_code (2 : Nat) (Option.some Jvm.ClassFile.FieldType.int)),
  (Jvm.Cond.methodLink "TraceAlignerModel" (130 : Nat) ({ cls := "TraceAlignerModel", name := "isTrace", desc := "(I)Z" } : Jvm.MethodName)),
  (Jvm.Cond.instanceMethod ({ cls := "TraceAlignerModel", name := "isTrace", desc := "(I)Z" } : Jvm.MethodName)),
  (Jvm.Cond.code ({ cls := "TraceAlignerModel", name := "isTrace", desc := "(I)Z" } : Jvm.MethodName) prog_7_method_8_code (2 : Nat) (Option.some Jvm.ClassFile.FieldType.boolean)),
  (Jvm.Cond.methodLink "TraceAlignerLaw" (175 : Nat) ({ cls := "TraceAlignerModel", name := "setLabelCost", desc := "(II)I" } : Jvm.MethodName)),
  (Jvm.Cond.instanceMethod ({ cls := "TraceAlignerModel", name := "setLabelCost", desc := "(II)I" } : Jvm.MethodName)),
  (Jvm.Cond.selects "TraceAlignerModel" ({ cls := "TraceAlignerModel", name := "setLabelCost", desc := "(II)I" } : Jvm.MethodName) ({ cls := "TraceAlignerModel", name := "setLabelCost", desc := "(II)I" } : Jvm.MethodName)),
  (Jvm.Cond.code ({ cls := "TraceAlignerModel", name := "setLabelCost", desc := "(II)I" } : Jvm.MethodName) prog_7_method_34_code (4 : Nat) (Option.some Jvm.ClassFile.FieldType.int)),
  (Jvm.Cond.methodLink "TraceAlignerLaw" (178 : Nat) ({ cls := "TraceAlignerModel", name := "setCost", desc := "(II)I" } : Jvm.MethodName)),
  (Jvm.Cond.instanceMethod ({ cls := "TraceAlignerModel", name := "setCost", desc := "(II)I" } : Jvm.MethodName)),
  (Jvm.Cond.selects "TraceAlignerModel" ({ cls := "TraceAlignerModel", name := "setCost", desc := "(II)I" } : Jvm.MethodName) ({ cls := "TraceAlignerModel", name := "setCost", desc := "(II)I" } : Jvm.MethodName)),
  (Jvm.Cond.code ({ cls := "TraceAlignerModel", name := "setCost", desc := "(II)I" } : Jvm.MethodName) prog_7_method_35_code (4 : Nat) (Option.some Jvm.ClassFile.FieldType.int)),
  (Jvm.Cond.methodLink "TraceAlignerLaw" (181 : Nat) ({ cls := "TraceAlignerModel", name := "cost", desc := "(I)I" } : Jvm.MethodName)),
  (Jvm.Cond.instanceMethod ({ cls := "TraceAlignerModel", name := "cost", desc := "(I)I" } : Jvm.MethodName)),
  (Jvm.Cond.selects "TraceAlignerModel" ({ cls := "TraceAlignerModel", name := "cost", desc := "(I)I" } : Jvm.MethodName) ({ cls := "TraceAlignerModel", name := "cost", desc := "(I)I" } : Jvm.MethodName)),
  (Jvm.Cond.code ({ cls := "TraceAlignerModel", name := "cost", desc := "(I)I" } : Jvm.MethodName) prog_7_method_48_code (2 : Nat) (Option.some Jvm.ClassFile.FieldType.int)),
  (Jvm.Cond.methodLink "TraceAlignerModel" (178 : Nat) ({ cls := "TraceAlignerModel", name := "asksTrace", desc := "(I)Z" } : Jvm.MethodName)),
  (Jvm.Cond.instanceMethod ({ cls := "TraceAlignerModel", name := "asksTrace", desc := "(I)Z" } : Jvm.MethodName)),
  (Jvm.Cond.code ({ cls := "TraceAlignerModel", name := "asksTrace", desc := "(I)Z" } : Jvm.MethodName) prog_7_method_45_code (2 : Nat) (Option.some Jvm.ClassFile.FieldType.boolean)),
  (Jvm.Cond.methodLink "TraceAlignerModel" (181 : Nat) ({ cls := "TraceAlignerModel", name := "costOf", desc := "(I)I" } : Jvm.MethodName)),
  (Jvm.Cond.instanceMethod ({ cls := "TraceAlignerModel", name := "costOf", desc := "(I)I" } : Jvm.MethodName)),
  (Jvm.Cond.code ({ cls := "TraceAlignerModel", name := "costOf", desc := "(I)I" } : Jvm.MethodName) prog_7_method_46_code (2 : Nat) (Option.some Jvm.ClassFile.FieldType.int)),
  (Jvm.Cond.methodLink "TraceAlignerModel" (171 : Nat) ({ cls := "TraceAlignerModel", name := "weigh", desc := "(II)V" } : Jvm.MethodName)),
  (Jvm.Cond.instanceMethod ({ cls := "TraceAlignerModel", name := "weigh", desc := "(II)V" } : Jvm.MethodName)),
  (Jvm.Cond.code ({ cls := "TraceAlignerModel", name := "weigh", desc := "(II)V" } : Jvm.MethodName) prog_7_method_41_code (8 : Nat) (Option.none : Option Jvm.ClassFile.FieldType)),
  (Jvm.Cond.methodLink "TraceAlignerModel" (151 : Nat) ({ cls := "TraceAlignerModel", name := "weightBy", desc := "(IIII)I" } : Jvm.MethodName)),
  (Jvm.Cond.instanceMethod ({ cls := "TraceAlignerModel", name := "weightBy", desc := "(IIII)I" } : Jvm.MethodName)),
  (Jvm.Cond.code ({ cls := "TraceAlignerModel", name := "weightBy", desc := "(IIII)I" } : Jvm.MethodName) prog_7_method_40_code (6 : Nat) (Option.some Jvm.ClassFile.FieldType.int))]
set_option maxRecDepth 100000 in
def am_big_21 : List Jvm.Cond := [
  (Jvm.Cond.methodLink "TraceAlignerModel" (142 : Nat) ({ cls := "TraceAlignerModel", name := "behind", desc := "(IIII)I" } : Jvm.MethodName)),
  (Jvm.Cond.instanceMethod ({ cls := "TraceAlignerModel", name := "behind", desc := "(IIII)I" } : Jvm.MethodName)),
  (Jvm.Cond.code ({ cls := "TraceAlignerModel", name := "behind", desc := "(IIII)I" } : Jvm.MethodName) prog_7_method_38_code (6 : Nat) (Option.some Jvm.ClassFile.FieldType.int)),
  (Jvm.Cond.methodLink "TraceAlignerModel" (139 : Nat) ({ cls := "TraceAlignerModel", name := "labelAt", desc := "(I)I" } : Jvm.MethodName)),
  (Jvm.Cond.instanceMethod ({ cls := "TraceAlignerModel", name := "labelAt", desc := "(I)I" } : Jvm.MethodName)),
  (Jvm.Cond.code ({ cls := "TraceAlignerModel", name := "labelAt", desc := "(I)I" } : Jvm.MethodName) prog_7_method_37_code (2 : Nat) (Option.some Jvm.ClassFile.FieldType.int)),
  (Jvm.Cond.methodLink "TraceAlignerModel" (147 : Nat) ({ cls := "TraceAlignerModel", name := "weightOf", desc := "(III)I" } : Jvm.MethodName)),
  (Jvm.Cond.instanceMethod ({ cls := "TraceAlignerModel", name := "weightOf", desc := "(III)I" } : Jvm.MethodName)),
  (Jvm.Cond.code ({ cls := "TraceAlignerModel", name := "weightOf", desc := "(III)I" } : Jvm.MethodName) prog_7_method_39_code (4 : Nat) (Option.some Jvm.ClassFile.FieldType.int)),
  (Jvm.Cond.methodLink "TraceAlignerModel" (154 : Nat) ({ cls := "java/lang/Math", name := "min", desc := "(II)I" } : Jvm.MethodName)),
  (Jvm.Cond.methodLink "TraceAlignerModel" (159 : Nat) ({ cls := "TraceAlignerModel", name := "weightAt", desc := "(II)I" } : Jvm.MethodName)),
  (Jvm.Cond.instanceMethod ({ cls := "TraceAlignerModel", name := "weightAt", desc := "(II)I" } : Jvm.MethodName)),
  (Jvm.Cond.code ({ cls := "TraceAlignerModel", name := "weightAt", desc := "(II)I" } : Jvm.MethodName) prog_7_method_36_code (3 : Nat) (Option.some Jvm.ClassFile.FieldType.int)),
  (Jvm.Cond.methodLink "TraceAlignerLaw" (184 : Nat) ({ cls := "TraceAlignerModel", name := "moves", desc := "(I)I" } : Jvm.MethodName)),
  (Jvm.Cond.instanceMethod ({ cls := "TraceAlignerModel", name := "moves", desc := "(I)I" } : Jvm.MethodName)),
  (Jvm.Cond.selects "TraceAlignerModel" ({ cls := "TraceAlignerModel", name := "moves", desc := "(I)I" } : Jvm.MethodName) ({ cls := "TraceAlignerModel", name := "moves", desc := "(I)I" } : Jvm.MethodName)),
  (Jvm.Cond.code ({ cls := "TraceAlignerModel", name := "moves", desc := "(I)I" } : Jvm.MethodName) prog_7_method_49_code (2 : Nat) (Option.some Jvm.ClassFile.FieldType.int)),
  (Jvm.Cond.methodLink "TraceAlignerModel" (184 : Nat) ({ cls := "TraceAlignerModel", name := "follow", desc := "(I)I" } : Jvm.MethodName)),
  (Jvm.Cond.instanceMethod ({ cls := "TraceAlignerModel", name := "follow", desc := "(I)I" } : Jvm.MethodName)),
  (Jvm.Cond.code ({ cls := "TraceAlignerModel", name := "follow", desc := "(I)I" } : Jvm.MethodName) prog_7_method_44_code (2 : Nat) (Option.some Jvm.ClassFile.FieldType.int)),
  (Jvm.Cond.methodLink "TraceAlignerModel" (175 : Nat) ({ cls := "TraceAlignerModel", name := "takesSome", desc := "(I)Z" } : Jvm.MethodName)),
  (Jvm.Cond.instanceMethod ({ cls := "TraceAlignerModel", name := "takesSome", desc := "(I)Z" } : Jvm.MethodName)),
  (Jvm.Cond.code ({ cls := "TraceAlignerModel", name := "takesSome", desc := "(I)Z" } : Jvm.MethodName) prog_7_method_43_code (3 : Nat) (Option.some Jvm.ClassFile.FieldType.boolean)),
  (Jvm.Cond.methodLink "TraceAlignerModel" (168 : Nat) ({ cls := "TraceAlignerModel", name := "takes", desc := "(II)Z" } : Jvm.MethodName)),
  (Jvm.Cond.instanceMethod ({ cls := "TraceAlignerModel", name := "takes", desc := "(II)Z" } : Jvm.MethodName)),
  (Jvm.Cond.code ({ cls := "TraceAlignerModel", name := "takes", desc := "(II)Z" } : Jvm.MethodName) prog_7_method_42_code (5 : Nat) (Option.some Jvm.ClassFile.FieldType.boolean)),
  (Jvm.Cond.methodLink "TraceAlignerLaw" (188 : Nat) ({ cls := "TraceAlignerModel", name := "move", desc := "(III)I" } : Jvm.MethodName)),
  (Jvm.Cond.instanceMethod ({ cls := "TraceAlignerModel", name := "move", desc := "(III)I" } : Jvm.MethodName)),
  (Jvm.Cond.selects "TraceAlignerModel" ({ cls := "TraceAlignerModel", name := "move", desc := "(III)I" } : Jvm.MethodName) ({ cls := "TraceAlignerModel", name := "move", desc := "(III)I" } : Jvm.MethodName)),
  (Jvm.Cond.code ({ cls := "TraceAlignerModel", name := "move", desc := "(III)I" } : Jvm.MethodName) prog_7_method_50_code (4 : Nat) (Option.some Jvm.ClassFile.FieldType.int)),
  (Jvm.Cond.methodLink "TraceAlignerLaw" (191 : Nat) ({ cls := "TraceAlignerModel", name := "worst", desc := "(I)I" } : Jvm.MethodName)),
  (Jvm.Cond.instanceMethod ({ cls := "TraceAlignerModel", name := "worst", desc := "(I)I" } : Jvm.MethodName)),
  (Jvm.Cond.selects "TraceAlignerModel" ({ cls := "TraceAlignerModel", name := "worst", desc := "(I)I" } : Jvm.MethodName) ({ cls := "TraceAlignerModel", name := "worst", desc := "(I)I" } : Jvm.MethodName)),
  (Jvm.Cond.code ({ cls := "TraceAlignerModel", name := "worst", desc := "(I)I" } : Jvm.MethodName) prog_7_method_51_code (2 : Nat) (Option.some Jvm.ClassFile.FieldType.int)),
  (Jvm.Cond.methodLink "TraceAlignerModel" (187 : Nat) ({ cls := "TraceAlignerModel", name := "worstOf", desc := "(I)I" } : Jvm.MethodName)),
  (Jvm.Cond.instanceMethod ({ cls := "TraceAlignerModel", name := "worstOf", desc := "(I)I" } : Jvm.MethodName)),
  (Jvm.Cond.code ({ cls := "TraceAlignerModel", name := "worstOf", desc := "(I)I" } : Jvm.MethodName) prog_7_method_47_code (4 : Nat) (Option.some Jvm.ClassFile.FieldType.int)),
  (Jvm.Cond.methodLink "TraceAlignerLaw" (195 : Nat) ({ cls := "TraceAlignerModel", name := "fitness", desc := "(I)D" } : Jvm.MethodName)),
  (Jvm.Cond.instanceMethod ({ cls := "TraceAlignerModel", name := "fitness", desc := "(I)D" } : Jvm.MethodName)),
  (Jvm.Cond.selects "TraceAlignerModel" ({ cls := "TraceAlignerModel", name := "fitness", desc := "(I)D" } : Jvm.MethodName) ({ cls := "TraceAlignerModel", name := "fitness", desc := "(I)D" } : Jvm.MethodName))]
set_option maxRecDepth 100000 in
def am_big_22 : List Jvm.Cond := [
  (Jvm.Cond.code ({ cls := "TraceAlignerModel", name := "fitness", desc := "(I)D" } : Jvm.MethodName) prog_7_method_52_code (4 : Nat) (Option.some Jvm.ClassFile.FieldType.double)),
  (Jvm.Cond.methodLink "TraceAlignerLaw" (198 : Nat) ({ cls := "TraceAlignerModel", name := "total", desc := "(II)I" } : Jvm.MethodName)),
  (Jvm.Cond.instanceMethod ({ cls := "TraceAlignerModel", name := "total", desc := "(II)I" } : Jvm.MethodName)),
  (Jvm.Cond.selects "TraceAlignerModel" ({ cls := "TraceAlignerModel", name := "total", desc := "(II)I" } : Jvm.MethodName) ({ cls := "TraceAlignerModel", name := "total", desc := "(II)I" } : Jvm.MethodName)),
  (Jvm.Cond.code ({ cls := "TraceAlignerModel", name := "total", desc := "(II)I" } : Jvm.MethodName) prog_7_method_53_code (9 : Nat) (Option.some Jvm.ClassFile.FieldType.int)),
  (Jvm.Cond.methodLink "TraceAlignerLaw" (202 : Nat) ({ cls := "TraceAlignerModel", name := "allFitness", desc := "()D" } : Jvm.MethodName)),
  (Jvm.Cond.instanceMethod ({ cls := "TraceAlignerModel", name := "allFitness", desc := "()D" } : Jvm.MethodName)),
  (Jvm.Cond.selects "TraceAlignerModel" ({ cls := "TraceAlignerModel", name := "allFitness", desc := "()D" } : Jvm.MethodName) ({ cls := "TraceAlignerModel", name := "allFitness", desc := "()D" } : Jvm.MethodName)),
  (Jvm.Cond.code ({ cls := "TraceAlignerModel", name := "allFitness", desc := "()D" } : Jvm.MethodName) prog_7_method_54_code (4 : Nat) (Option.some Jvm.ClassFile.FieldType.double)),
  (Jvm.Cond.methodLink "TraceAlignerLaw" (205 : Nat) ({ cls := "TraceAlignerModel", name := "precision", desc := "()D" } : Jvm.MethodName)),
  (Jvm.Cond.instanceMethod ({ cls := "TraceAlignerModel", name := "precision", desc := "()D" } : Jvm.MethodName)),
  (Jvm.Cond.selects "TraceAlignerModel" ({ cls := "TraceAlignerModel", name := "precision", desc := "()D" } : Jvm.MethodName) ({ cls := "TraceAlignerModel", name := "precision", desc := "()D" } : Jvm.MethodName)),
  (Jvm.Cond.code ({ cls := "TraceAlignerModel", name := "precision", desc := "()D" } : Jvm.MethodName) prog_7_method_55_code (6 : Nat) (Option.some Jvm.ClassFile.FieldType.double)),
  (Jvm.Cond.methodLink "TraceAlignerModel" (190 : Nat) ({ cls := "java/lang/Integer", name := "bitCount", desc := "(I)I" } : Jvm.MethodName)),
  (Jvm.Cond.methodLink "TraceAlignerLaw" (210 : Nat) ({ cls := "TraceAlignerModel", name := "digest", desc := "()J" } : Jvm.MethodName)),
  (Jvm.Cond.instanceMethod ({ cls := "TraceAlignerModel", name := "digest", desc := "()J" } : Jvm.MethodName)),
  (Jvm.Cond.selects "TraceAlignerModel" ({ cls := "TraceAlignerModel", name := "digest", desc := "()J" } : Jvm.MethodName) ({ cls := "TraceAlignerModel", name := "digest", desc := "()J" } : Jvm.MethodName)),
  (Jvm.Cond.code ({ cls := "TraceAlignerModel", name := "digest", desc := "()J" } : Jvm.MethodName) prog_7_method_56_code (5 : Nat) (Option.some Jvm.ClassFile.FieldType.long)),
  (Jvm.Cond.arrayClass Jvm.ClassFile.FieldType.long),
  (Jvm.Cond.arrayClass Jvm.ClassFile.FieldType.double),
  (Jvm.Cond.sameMethod "java/lang/Throwable" "java/lang/Throwable" "fillInStackTrace" "(I)Ljava/lang/Throwable;"),
  (Jvm.Cond.selects "TraceAligner" ({ cls := "TraceAligner", name := "digestOfNet", desc := "(J)J" } : Jvm.MethodName) ({ cls := "TraceAligner", name := "digestOfNet", desc := "(J)J" } : Jvm.MethodName)),
  (Jvm.Cond.selects "TraceAligner" ({ cls := "TraceAligner", name := "digestOfTraces", desc := "(J)J" } : Jvm.MethodName) ({ cls := "TraceAligner", name := "digestOfTraces", desc := "(J)J" } : Jvm.MethodName)),
  (Jvm.Cond.selects "TraceAligner" ({ cls := "TraceAligner", name := "forgetMarkings", desc := "()V" } : Jvm.MethodName) ({ cls := "TraceAligner", name := "forgetMarkings", desc := "()V" } : Jvm.MethodName)),
  (Jvm.Cond.selects "TraceAligner" ({ cls := "TraceAligner", name := "forgetAlignments", desc := "()V" } : Jvm.MethodName) ({ cls := "TraceAligner", name := "forgetAlignments", desc := "()V" } : Jvm.MethodName)),
  (Jvm.Cond.selects "TraceAligner" ({ cls := "TraceAligner", name := "requireTransition", desc := "(I)V" } : Jvm.MethodName) ({ cls := "TraceAligner", name := "requireTransition", desc := "(I)V" } : Jvm.MethodName)),
  (Jvm.Cond.selects "TraceAligner" ({ cls := "TraceAligner", name := "requirePlace", desc := "(I)V" } : Jvm.MethodName) ({ cls := "TraceAligner", name := "requirePlace", desc := "(I)V" } : Jvm.MethodName)),
  (Jvm.Cond.selects "TraceAligner" ({ cls := "TraceAligner", name := "requireMarkings", desc := "()V" } : Jvm.MethodName) ({ cls := "TraceAligner", name := "requireMarkings", desc := "()V" } : Jvm.MethodName)),
  (Jvm.Cond.selects "TraceAligner" ({ cls := "TraceAligner", name := "requireMarking", desc := "(I)V" } : Jvm.MethodName) ({ cls := "TraceAligner", name := "requireMarking", desc := "(I)V" } : Jvm.MethodName)),
  (Jvm.Cond.selects "TraceAligner" ({ cls := "TraceAligner", name := "requireTrace", desc := "(I)V" } : Jvm.MethodName) ({ cls := "TraceAligner", name := "requireTrace", desc := "(I)V" } : Jvm.MethodName)),
  (Jvm.Cond.selects "TraceAligner" ({ cls := "TraceAligner", name := "alignedTrace", desc := "(I)LTraceAligner$Trace;" } : Jvm.MethodName) ({ cls := "TraceAligner", name := "alignedTrace", desc := "(I)LTraceAligner$Trace;" } : Jvm.MethodName)),
  (Jvm.Cond.selects "TraceAligner" ({ cls := "TraceAligner", name := "collectFired", desc := "()V" } : Jvm.MethodName) ({ cls := "TraceAligner", name := "collectFired", desc := "()V" } : Jvm.MethodName)),
  (Jvm.Cond.selects "TraceAligner" ({ cls := "TraceAligner", name := "visitedSize", desc := "(LTraceAligner$Trace;[I)I" } : Jvm.MethodName) ({ cls := "TraceAligner", name := "visitedSize", desc := "(LTraceAligner$Trace;[I)I" } : Jvm.MethodName)),
  (Jvm.Cond.selects "TraceAlignerModel" ({ cls := "TraceAlignerModel", name := "no", desc := "(I)I" } : Jvm.MethodName) ({ cls := "TraceAlignerModel", name := "no", desc := "(I)I" } : Jvm.MethodName)),
  (Jvm.Cond.selects "TraceAlignerModel" ({ cls := "TraceAlignerModel", name := "isTransition", desc := "(I)Z" } : Jvm.MethodName) ({ cls := "TraceAlignerModel", name := "isTransition", desc := "(I)Z" } : Jvm.MethodName)),
  (Jvm.Cond.selects "TraceAlignerModel" ({ cls := "TraceAlignerModel", name := "isPlace", desc := "(I)Z" } : Jvm.MethodName) ({ cls := "TraceAlignerModel", name := "isPlace", desc := "(I)Z" } : Jvm.MethodName)),
  (Jvm.Cond.selects "TraceAlignerModel" ({ cls := "TraceAlignerModel", name := "look", desc := "()V" } : Jvm.MethodName) ({ cls := "TraceAlignerModel", name := "look", desc := "()V" } : Jvm.MethodName)),
  (Jvm.Cond.selects "TraceAlignerModel" ({ cls := "TraceAlignerModel", name := "fire", desc := "(II)I" } : Jvm.MethodName) ({ cls := "TraceAlignerModel", name := "fire", desc := "(II)I" } : Jvm.MethodName)),
  (Jvm.Cond.selects "TraceAlignerModel" ({ cls := "TraceAlignerModel", name := "numberOf", desc := "(I)I" } : Jvm.MethodName) ({ cls := "TraceAlignerModel", name := "numberOf", desc := "(I)I" } : Jvm.MethodName)),
  (Jvm.Cond.selects "TraceAlignerModel" ({ cls := "TraceAlignerModel", name := "asks", desc := "(I)Z" } : Jvm.MethodName) ({ cls := "TraceAlignerModel", name := "asks", desc := "(I)Z" } : Jvm.MethodName))]
set_option maxRecDepth 100000 in
def am_big_23 : List Jvm.Cond := [
  (Jvm.Cond.selects "TraceAlignerModel" ({ cls := "TraceAlignerModel", name := "enabledIn", desc := "(I)I" } : Jvm.MethodName) ({ cls := "TraceAlignerModel", name := "enabledIn", desc := "(I)I" } : Jvm.MethodName)),
  (Jvm.Cond.selects "TraceAlignerModel" ({ cls := "TraceAlignerModel", name := "isTrace", desc := "(I)Z" } : Jvm.MethodName) ({ cls := "TraceAlignerModel", name := "isTrace", desc := "(I)Z" } : Jvm.MethodName)),
  (Jvm.Cond.selects "TraceAlignerModel" ({ cls := "TraceAlignerModel", name := "asksTrace", desc := "(I)Z" } : Jvm.MethodName) ({ cls := "TraceAlignerModel", name := "asksTrace", desc := "(I)Z" } : Jvm.MethodName)),
  (Jvm.Cond.selects "TraceAlignerModel" ({ cls := "TraceAlignerModel", name := "costOf", desc := "(I)I" } : Jvm.MethodName) ({ cls := "TraceAlignerModel", name := "costOf", desc := "(I)I" } : Jvm.MethodName)),
  (Jvm.Cond.selects "TraceAlignerModel" ({ cls := "TraceAlignerModel", name := "weigh", desc := "(II)V" } : Jvm.MethodName) ({ cls := "TraceAlignerModel", name := "weigh", desc := "(II)V" } : Jvm.MethodName)),
  (Jvm.Cond.selects "TraceAlignerModel" ({ cls := "TraceAlignerModel", name := "weightBy", desc := "(IIII)I" } : Jvm.MethodName) ({ cls := "TraceAlignerModel", name := "weightBy", desc := "(IIII)I" } : Jvm.MethodName)),
  (Jvm.Cond.selects "TraceAlignerModel" ({ cls := "TraceAlignerModel", name := "behind", desc := "(IIII)I" } : Jvm.MethodName) ({ cls := "TraceAlignerModel", name := "behind", desc := "(IIII)I" } : Jvm.MethodName)),
  (Jvm.Cond.selects "TraceAlignerModel" ({ cls := "TraceAlignerModel", name := "labelAt", desc := "(I)I" } : Jvm.MethodName) ({ cls := "TraceAlignerModel", name := "labelAt", desc := "(I)I" } : Jvm.MethodName)),
  (Jvm.Cond.selects "TraceAlignerModel" ({ cls := "TraceAlignerModel", name := "weightOf", desc := "(III)I" } : Jvm.MethodName) ({ cls := "TraceAlignerModel", name := "weightOf", desc := "(III)I" } : Jvm.MethodName)),
  (Jvm.Cond.selects "TraceAlignerModel" ({ cls := "TraceAlignerModel", name := "weightAt", desc := "(II)I" } : Jvm.MethodName) ({ cls := "TraceAlignerModel", name := "weightAt", desc := "(II)I" } : Jvm.MethodName)),
  (Jvm.Cond.selects "TraceAlignerModel" ({ cls := "TraceAlignerModel", name := "follow", desc := "(I)I" } : Jvm.MethodName) ({ cls := "TraceAlignerModel", name := "follow", desc := "(I)I" } : Jvm.MethodName)),
  (Jvm.Cond.selects "TraceAlignerModel" ({ cls := "TraceAlignerModel", name := "takesSome", desc := "(I)Z" } : Jvm.MethodName) ({ cls := "TraceAlignerModel", name := "takesSome", desc := "(I)Z" } : Jvm.MethodName)),
  (Jvm.Cond.selects "TraceAlignerModel" ({ cls := "TraceAlignerModel", name := "takes", desc := "(II)Z" } : Jvm.MethodName) ({ cls := "TraceAlignerModel", name := "takes", desc := "(II)Z" } : Jvm.MethodName)),
  (Jvm.Cond.selects "TraceAlignerModel" ({ cls := "TraceAlignerModel", name := "worstOf", desc := "(I)I" } : Jvm.MethodName) ({ cls := "TraceAlignerModel", name := "worstOf", desc := "(I)I" } : Jvm.MethodName)),
  (Jvm.Cond.native ({ cls := "java/lang/Throwable", name := "fillInStackTrace", desc := "(I)Ljava/lang/Throwable;" } : Jvm.MethodName)),
  (Jvm.Cond.native ({ cls := "java/lang/System", name := "arraycopy", desc := "(Ljava/lang/Object;ILjava/lang/Object;II)V" } : Jvm.MethodName))]
def am_big : List Jvm.Cond := am_big_0 ++ (am_big_1 ++ (am_big_2 ++ (am_big_3 ++ (am_big_4 ++ (am_big_5 ++ (am_big_6 ++ (am_big_7 ++ (am_big_8 ++ (am_big_9 ++ (am_big_10 ++ (am_big_11 ++ (am_big_12 ++ (am_big_13 ++ (am_big_14 ++ (am_big_15 ++ (am_big_16 ++ (am_big_17 ++ (am_big_18 ++ (am_big_19 ++ (am_big_20 ++ (am_big_21 ++ (am_big_22 ++ (am_big_23)))))))))))))))))))))))
theorem am_okM_app {own : String} {cl : List vw_C} {big : List Jvm.Cond} {a b : List am_MR} (ha : ∀ q ∈ a, am_okM own cl big q) (hb : ∀ q ∈ b, am_okM own cl big q) : ∀ q ∈ a ++ b, am_okM own cl big q := fun q h => (List.mem_append.mp h).elim (ha q) (hb q)
abbrev am_G0 : List vw_C × List Jvm.Cond := (am_cl, am_big)
set_option maxRecDepth 100000 in
theorem am_big_good0 : am_big.all goodWord = true := by decide +kernel
theorem am_big_good : ∀ w ∈ am_big, goodWord w = true := fun w h => List.all_eq_true.mp am_big_good0 w h
set_option maxRecDepth 100000 in
theorem am_big_in0 : ∀ w ∈ am_big_0, w ∈ lw_tbl := List.forall_mem_cons.mpr ⟨List.mem_of_getElem? (i := 280) rfl, List.forall_mem_cons.mpr ⟨List.mem_of_getElem? (i := 285) rfl, List.forall_mem_cons.mpr ⟨List.mem_of_getElem? (i := 306) rfl, List.forall_mem_cons.mpr ⟨List.mem_of_getElem? (i := 767) rfl, List.forall_mem_cons.mpr ⟨List.mem_of_getElem? (i := 768) rfl, List.forall_mem_cons.mpr ⟨List.mem_of_getElem? (i := 769) rfl, List.forall_mem_cons.mpr ⟨List.mem_of_getElem? (i := 1013) rfl, List.forall_mem_cons.mpr ⟨List.mem_of_getElem? (i := 1084) rfl, List.forall_mem_cons.mpr ⟨List.mem_of_getElem? (i := 1085) rfl, List.forall_mem_cons.mpr ⟨List.mem_of_getElem? (i := 34) rfl, List.forall_mem_cons.mpr ⟨List.mem_of_getElem? (i := 35) rfl, List.forall_mem_cons.mpr ⟨List.mem_of_getElem? (i := 36) rfl, List.forall_mem_cons.mpr ⟨List.mem_of_getElem? (i := 37) rfl, List.forall_mem_cons.mpr ⟨List.mem_of_getElem? (i := 38) rfl, List.forall_mem_cons.mpr ⟨List.mem_of_getElem? (i := 39) rfl, List.forall_mem_cons.mpr ⟨List.mem_of_getElem? (i := 40) rfl, List.forall_mem_cons.mpr ⟨List.mem_of_getElem? (i := 41) rfl, List.forall_mem_cons.mpr ⟨List.mem_of_getElem? (i := 42) rfl, List.forall_mem_cons.mpr ⟨List.mem_of_getElem? (i := 43) rfl, List.forall_mem_cons.mpr ⟨List.mem_of_getElem? (i := 44) rfl, List.forall_mem_cons.mpr ⟨List.mem_of_getElem? (i := 45) rfl, List.forall_mem_cons.mpr ⟨List.mem_of_getElem? (i := 46) rfl, List.forall_mem_cons.mpr ⟨List.mem_of_getElem? (i := 47) rfl, List.forall_mem_cons.mpr ⟨List.mem_of_getElem? (i := 48) rfl, List.forall_mem_cons.mpr ⟨List.mem_of_getElem? (i := 49) rfl, List.forall_mem_cons.mpr ⟨List.mem_of_getElem? (i := 50) rfl, List.forall_mem_cons.mpr ⟨List.mem_of_getElem? (i := 51) rfl, List.forall_mem_cons.mpr ⟨List.mem_of_getElem? (i := 52) rfl, List.forall_mem_cons.mpr ⟨List.mem_of_getElem? (i := 53) rfl, List.forall_mem_cons.mpr ⟨List.mem_of_getElem? (i := 54) rfl, List.forall_mem_cons.mpr ⟨List.mem_of_getElem? (i := 55) rfl, List.forall_mem_cons.mpr ⟨List.mem_of_getElem? (i := 56) rfl, List.forall_mem_cons.mpr ⟨List.mem_of_getElem? (i := 57) rfl, List.forall_mem_cons.mpr ⟨List.mem_of_getElem? (i := 58) rfl, List.forall_mem_cons.mpr ⟨List.mem_of_getElem? (i := 59) rfl, List.forall_mem_cons.mpr ⟨List.mem_of_getElem? (i := 60) rfl, List.forall_mem_cons.mpr ⟨List.mem_of_getElem? (i := 62) rfl, List.forall_mem_cons.mpr ⟨List.mem_of_getElem? (i := 63) rfl, List.forall_mem_cons.mpr ⟨List.mem_of_getElem? (i := 64) rfl, List.forall_mem_cons.mpr ⟨List.mem_of_getElem? (i := 65) rfl, fun _ h => absurd h List.not_mem_nil⟩⟩⟩⟩⟩⟩⟩⟩⟩⟩⟩⟩⟩⟩⟩⟩⟩⟩⟩⟩⟩⟩⟩⟩⟩⟩⟩⟩⟩⟩⟩⟩⟩⟩⟩⟩⟩⟩⟩⟩
set_option maxRecDepth 100000 in
theorem am_big_in1 : ∀ w ∈ am_big_1, w ∈ lw_tbl := List.forall_mem_cons.mpr ⟨List.mem_of_getElem? (i := 66) rfl, List.forall_mem_cons.mpr ⟨List.mem_of_getElem? (i := 67) rfl, List.forall_mem_cons.mpr ⟨List.mem_of_getElem? (i := 68) rfl, List.forall_mem_cons.mpr ⟨List.mem_of_getElem? (i := 69) rfl, List.forall_mem_cons.mpr ⟨List.mem_of_getElem? (i := 70) rfl, List.forall_mem_cons.mpr ⟨List.mem_of_getElem? (i := 71) rfl, List.forall_mem_cons.mpr ⟨List.mem_of_getElem? (i := 72) rfl, List.forall_mem_cons.mpr ⟨List.mem_of_getElem? (i := 73) rfl, List.forall_mem_cons.mpr ⟨List.mem_of_getElem? (i := 74) rfl, List.forall_mem_cons.mpr ⟨List.mem_of_getElem? (i := 75) rfl, List.forall_mem_cons.mpr ⟨List.mem_of_getElem? (i := 76) rfl, List.forall_mem_cons.mpr ⟨List.mem_of_getElem? (i := 77) rfl, List.forall_mem_cons.mpr ⟨List.mem_of_getElem? (i := 78) rfl, List.forall_mem_cons.mpr ⟨List.mem_of_getElem? (i := 79) rfl, List.forall_mem_cons.mpr ⟨List.mem_of_getElem? (i := 80) rfl, List.forall_mem_cons.mpr ⟨List.mem_of_getElem? (i := 81) rfl, List.forall_mem_cons.mpr ⟨List.mem_of_getElem? (i := 82) rfl, List.forall_mem_cons.mpr ⟨List.mem_of_getElem? (i := 83) rfl, List.forall_mem_cons.mpr ⟨List.mem_of_getElem? (i := 84) rfl, List.forall_mem_cons.mpr ⟨List.mem_of_getElem? (i := 85) rfl, List.forall_mem_cons.mpr ⟨List.mem_of_getElem? (i := 86) rfl, List.forall_mem_cons.mpr ⟨List.mem_of_getElem? (i := 87) rfl, List.forall_mem_cons.mpr ⟨List.mem_of_getElem? (i := 89) rfl, List.forall_mem_cons.mpr ⟨List.mem_of_getElem? (i := 91) rfl, List.forall_mem_cons.mpr ⟨List.mem_of_getElem? (i := 93) rfl, List.forall_mem_cons.mpr ⟨List.mem_of_getElem? (i := 95) rfl, List.forall_mem_cons.mpr ⟨List.mem_of_getElem? (i := 97) rfl, List.forall_mem_cons.mpr ⟨List.mem_of_getElem? (i := 99) rfl, List.forall_mem_cons.mpr ⟨List.mem_of_getElem? (i := 101) rfl, List.forall_mem_cons.mpr ⟨List.mem_of_getElem? (i := 103) rfl, List.forall_mem_cons.mpr ⟨List.mem_of_getElem? (i := 104) rfl, List.forall_mem_cons.mpr ⟨List.mem_of_getElem? (i := 105) rfl, List.forall_mem_cons.mpr ⟨List.mem_of_getElem? (i := 106) rfl, List.forall_mem_cons.mpr ⟨List.mem_of_getElem? (i := 107) rfl, List.forall_mem_cons.mpr ⟨List.mem_of_getElem? (i := 108) rfl, List.forall_mem_cons.mpr ⟨List.mem_of_getElem? (i := 109) rfl, List.forall_mem_cons.mpr ⟨List.mem_of_getElem? (i := 110) rfl, List.forall_mem_cons.mpr ⟨List.mem_of_getElem? (i := 111) rfl, List.forall_mem_cons.mpr ⟨List.mem_of_getElem? (i := 112) rfl, List.forall_mem_cons.mpr ⟨List.mem_of_getElem? (i := 113) rfl, fun _ h => absurd h List.not_mem_nil⟩⟩⟩⟩⟩⟩⟩⟩⟩⟩⟩⟩⟩⟩⟩⟩⟩⟩⟩⟩⟩⟩⟩⟩⟩⟩⟩⟩⟩⟩⟩⟩⟩⟩⟩⟩⟩⟩⟩⟩
set_option maxRecDepth 100000 in
theorem am_big_in2 : ∀ w ∈ am_big_2, w ∈ lw_tbl := List.forall_mem_cons.mpr ⟨List.mem_of_getElem? (i := 114) rfl, List.forall_mem_cons.mpr ⟨List.mem_of_getElem? (i := 115) rfl, List.forall_mem_cons.mpr ⟨List.mem_of_getElem? (i := 116) rfl, List.forall_mem_cons.mpr ⟨List.mem_of_getElem? (i := 117) rfl, List.forall_mem_cons.mpr ⟨List.mem_of_getElem? (i := 118) rfl, List.forall_mem_cons.mpr ⟨List.mem_of_getElem? (i := 119) rfl, List.forall_mem_cons.mpr ⟨List.mem_of_getElem? (i := 120) rfl, List.forall_mem_cons.mpr ⟨List.mem_of_getElem? (i := 121) rfl, List.forall_mem_cons.mpr ⟨List.mem_of_getElem? (i := 122) rfl, List.forall_mem_cons.mpr ⟨List.mem_of_getElem? (i := 123) rfl, List.forall_mem_cons.mpr ⟨List.mem_of_getElem? (i := 124) rfl, List.forall_mem_cons.mpr ⟨List.mem_of_getElem? (i := 125) rfl, List.forall_mem_cons.mpr ⟨List.mem_of_getElem? (i := 127) rfl, List.forall_mem_cons.mpr ⟨List.mem_of_getElem? (i := 129) rfl, List.forall_mem_cons.mpr ⟨List.mem_of_getElem? (i := 131) rfl, List.forall_mem_cons.mpr ⟨List.mem_of_getElem? (i := 133) rfl, List.forall_mem_cons.mpr ⟨List.mem_of_getElem? (i := 135) rfl, List.forall_mem_cons.mpr ⟨List.mem_of_getElem? (i := 137) rfl, List.forall_mem_cons.mpr ⟨List.mem_of_getElem? (i := 139) rfl, List.forall_mem_cons.mpr ⟨List.mem_of_getElem? (i := 140) rfl, List.forall_mem_cons.mpr ⟨List.mem_of_getElem? (i := 141) rfl, List.forall_mem_cons.mpr ⟨List.mem_of_getElem? (i := 142) rfl, List.forall_mem_cons.mpr ⟨List.mem_of_getElem? (i := 143) rfl, List.forall_mem_cons.mpr ⟨List.mem_of_getElem? (i := 144) rfl, List.forall_mem_cons.mpr ⟨List.mem_of_getElem? (i := 145) rfl, List.forall_mem_cons.mpr ⟨List.mem_of_getElem? (i := 146) rfl, List.forall_mem_cons.mpr ⟨List.mem_of_getElem? (i := 147) rfl, List.forall_mem_cons.mpr ⟨List.mem_of_getElem? (i := 148) rfl, List.forall_mem_cons.mpr ⟨List.mem_of_getElem? (i := 149) rfl, List.forall_mem_cons.mpr ⟨List.mem_of_getElem? (i := 151) rfl, List.forall_mem_cons.mpr ⟨List.mem_of_getElem? (i := 152) rfl, List.forall_mem_cons.mpr ⟨List.mem_of_getElem? (i := 153) rfl, List.forall_mem_cons.mpr ⟨List.mem_of_getElem? (i := 154) rfl, List.forall_mem_cons.mpr ⟨List.mem_of_getElem? (i := 155) rfl, List.forall_mem_cons.mpr ⟨List.mem_of_getElem? (i := 156) rfl, List.forall_mem_cons.mpr ⟨List.mem_of_getElem? (i := 158) rfl, List.forall_mem_cons.mpr ⟨List.mem_of_getElem? (i := 160) rfl, List.forall_mem_cons.mpr ⟨List.mem_of_getElem? (i := 162) rfl, List.forall_mem_cons.mpr ⟨List.mem_of_getElem? (i := 164) rfl, List.forall_mem_cons.mpr ⟨List.mem_of_getElem? (i := 166) rfl, fun _ h => absurd h List.not_mem_nil⟩⟩⟩⟩⟩⟩⟩⟩⟩⟩⟩⟩⟩⟩⟩⟩⟩⟩⟩⟩⟩⟩⟩⟩⟩⟩⟩⟩⟩⟩⟩⟩⟩⟩⟩⟩⟩⟩⟩⟩
set_option maxRecDepth 100000 in
theorem am_big_in3 : ∀ w ∈ am_big_3, w ∈ lw_tbl := List.forall_mem_cons.mpr ⟨List.mem_of_getElem? (i := 167) rfl, List.forall_mem_cons.mpr ⟨List.mem_of_getElem? (i := 169) rfl, List.forall_mem_cons.mpr ⟨List.mem_of_getElem? (i := 171) rfl, List.forall_mem_cons.mpr ⟨List.mem_of_getElem? (i := 172) rfl, List.forall_mem_cons.mpr ⟨List.mem_of_getElem? (i := 173) rfl, List.forall_mem_cons.mpr ⟨List.mem_of_getElem? (i := 174) rfl, List.forall_mem_cons.mpr ⟨List.mem_of_getElem? (i := 175) rfl, List.forall_mem_cons.mpr ⟨List.mem_of_getElem? (i := 176) rfl, List.forall_mem_cons.mpr ⟨List.mem_of_getElem? (i := 177) rfl, List.forall_mem_cons.mpr ⟨List.mem_of_getElem? (i := 178) rfl, List.forall_mem_cons.mpr ⟨List.mem_of_getElem? (i := 179) rfl, List.forall_mem_cons.mpr ⟨List.mem_of_getElem? (i := 180) rfl, List.forall_mem_cons.mpr ⟨List.mem_of_getElem? (i := 181) rfl, List.forall_mem_cons.mpr ⟨List.mem_of_getElem? (i := 182) rfl, List.forall_mem_cons.mpr ⟨List.mem_of_getElem? (i := 183) rfl, List.forall_mem_cons.mpr ⟨List.mem_of_getElem? (i := 184) rfl, List.forall_mem_cons.mpr ⟨List.mem_of_getElem? (i := 185) rfl, List.forall_mem_cons.mpr ⟨List.mem_of_getElem? (i := 186) rfl, List.forall_mem_cons.mpr ⟨List.mem_of_getElem? (i := 187) rfl, List.forall_mem_cons.mpr ⟨List.mem_of_getElem? (i := 188) rfl, List.forall_mem_cons.mpr ⟨List.mem_of_getElem? (i := 189) rfl, List.forall_mem_cons.mpr ⟨List.mem_of_getElem? (i := 190) rfl, List.forall_mem_cons.mpr ⟨List.mem_of_getElem? (i := 191) rfl, List.forall_mem_cons.mpr ⟨List.mem_of_getElem? (i := 192) rfl, List.forall_mem_cons.mpr ⟨List.mem_of_getElem? (i := 193) rfl, List.forall_mem_cons.mpr ⟨List.mem_of_getElem? (i := 194) rfl, List.forall_mem_cons.mpr ⟨List.mem_of_getElem? (i := 195) rfl, List.forall_mem_cons.mpr ⟨List.mem_of_getElem? (i := 196) rfl, List.forall_mem_cons.mpr ⟨List.mem_of_getElem? (i := 197) rfl, List.forall_mem_cons.mpr ⟨List.mem_of_getElem? (i := 199) rfl, List.forall_mem_cons.mpr ⟨List.mem_of_getElem? (i := 201) rfl, List.forall_mem_cons.mpr ⟨List.mem_of_getElem? (i := 203) rfl, List.forall_mem_cons.mpr ⟨List.mem_of_getElem? (i := 205) rfl, List.forall_mem_cons.mpr ⟨List.mem_of_getElem? (i := 207) rfl, List.forall_mem_cons.mpr ⟨List.mem_of_getElem? (i := 209) rfl, List.forall_mem_cons.mpr ⟨List.mem_of_getElem? (i := 211) rfl, List.forall_mem_cons.mpr ⟨List.mem_of_getElem? (i := 213) rfl, List.forall_mem_cons.mpr ⟨List.mem_of_getElem? (i := 214) rfl, List.forall_mem_cons.mpr ⟨List.mem_of_getElem? (i := 215) rfl, List.forall_mem_cons.mpr ⟨List.mem_of_getElem? (i := 216) rfl, fun _ h => absurd h List.not_mem_nil⟩⟩⟩⟩⟩⟩⟩⟩⟩⟩⟩⟩⟩⟩⟩⟩⟩⟩⟩⟩⟩⟩⟩⟩⟩⟩⟩⟩⟩⟩⟩⟩⟩⟩⟩⟩⟩⟩⟩⟩
set_option maxRecDepth 100000 in
theorem am_big_in4 : ∀ w ∈ am_big_4, w ∈ lw_tbl := List.forall_mem_cons.mpr ⟨List.mem_of_getElem? (i := 217) rfl, List.forall_mem_cons.mpr ⟨List.mem_of_getElem? (i := 218) rfl, List.forall_mem_cons.mpr ⟨List.mem_of_getElem? (i := 219) rfl, List.forall_mem_cons.mpr ⟨List.mem_of_getElem? (i := 220) rfl, List.forall_mem_cons.mpr ⟨List.mem_of_getElem? (i := 221) rfl, List.forall_mem_cons.mpr ⟨List.mem_of_getElem? (i := 222) rfl, List.forall_mem_cons.mpr ⟨List.mem_of_getElem? (i := 223) rfl, List.forall_mem_cons.mpr ⟨List.mem_of_getElem? (i := 225) rfl, List.forall_mem_cons.mpr ⟨List.mem_of_getElem? (i := 227) rfl, List.forall_mem_cons.mpr ⟨List.mem_of_getElem? (i := 229) rfl, List.forall_mem_cons.mpr ⟨List.mem_of_getElem? (i := 231) rfl, List.forall_mem_cons.mpr ⟨List.mem_of_getElem? (i := 233) rfl, List.forall_mem_cons.mpr ⟨List.mem_of_getElem? (i := 235) rfl, List.forall_mem_cons.mpr ⟨List.mem_of_getElem? (i := 237) rfl, List.forall_mem_cons.mpr ⟨List.mem_of_getElem? (i := 239) rfl, List.forall_mem_cons.mpr ⟨List.mem_of_getElem? (i := 241) rfl, List.forall_mem_cons.mpr ⟨List.mem_of_getElem? (i := 242) rfl, List.forall_mem_cons.mpr ⟨List.mem_of_getElem? (i := 243) rfl, List.forall_mem_cons.mpr ⟨List.mem_of_getElem? (i := 244) rfl, List.forall_mem_cons.mpr ⟨List.mem_of_getElem? (i := 245) rfl, List.forall_mem_cons.mpr ⟨List.mem_of_getElem? (i := 246) rfl, List.forall_mem_cons.mpr ⟨List.mem_of_getElem? (i := 247) rfl, List.forall_mem_cons.mpr ⟨List.mem_of_getElem? (i := 248) rfl, List.forall_mem_cons.mpr ⟨List.mem_of_getElem? (i := 249) rfl, List.forall_mem_cons.mpr ⟨List.mem_of_getElem? (i := 250) rfl, List.forall_mem_cons.mpr ⟨List.mem_of_getElem? (i := 251) rfl, List.forall_mem_cons.mpr ⟨List.mem_of_getElem? (i := 252) rfl, List.forall_mem_cons.mpr ⟨List.mem_of_getElem? (i := 253) rfl, List.forall_mem_cons.mpr ⟨List.mem_of_getElem? (i := 254) rfl, List.forall_mem_cons.mpr ⟨List.mem_of_getElem? (i := 255) rfl, List.forall_mem_cons.mpr ⟨List.mem_of_getElem? (i := 256) rfl, List.forall_mem_cons.mpr ⟨List.mem_of_getElem? (i := 257) rfl, List.forall_mem_cons.mpr ⟨List.mem_of_getElem? (i := 258) rfl, List.forall_mem_cons.mpr ⟨List.mem_of_getElem? (i := 259) rfl, List.forall_mem_cons.mpr ⟨List.mem_of_getElem? (i := 260) rfl, List.forall_mem_cons.mpr ⟨List.mem_of_getElem? (i := 261) rfl, List.forall_mem_cons.mpr ⟨List.mem_of_getElem? (i := 263) rfl, List.forall_mem_cons.mpr ⟨List.mem_of_getElem? (i := 264) rfl, List.forall_mem_cons.mpr ⟨List.mem_of_getElem? (i := 266) rfl, List.forall_mem_cons.mpr ⟨List.mem_of_getElem? (i := 267) rfl, fun _ h => absurd h List.not_mem_nil⟩⟩⟩⟩⟩⟩⟩⟩⟩⟩⟩⟩⟩⟩⟩⟩⟩⟩⟩⟩⟩⟩⟩⟩⟩⟩⟩⟩⟩⟩⟩⟩⟩⟩⟩⟩⟩⟩⟩⟩
set_option maxRecDepth 100000 in
theorem am_big_in5 : ∀ w ∈ am_big_5, w ∈ lw_tbl := List.forall_mem_cons.mpr ⟨List.mem_of_getElem? (i := 268) rfl, List.forall_mem_cons.mpr ⟨List.mem_of_getElem? (i := 269) rfl, List.forall_mem_cons.mpr ⟨List.mem_of_getElem? (i := 270) rfl, List.forall_mem_cons.mpr ⟨List.mem_of_getElem? (i := 271) rfl, List.forall_mem_cons.mpr ⟨List.mem_of_getElem? (i := 272) rfl, List.forall_mem_cons.mpr ⟨List.mem_of_getElem? (i := 273) rfl, List.forall_mem_cons.mpr ⟨List.mem_of_getElem? (i := 274) rfl, List.forall_mem_cons.mpr ⟨List.mem_of_getElem? (i := 275) rfl, List.forall_mem_cons.mpr ⟨List.mem_of_getElem? (i := 276) rfl, List.forall_mem_cons.mpr ⟨List.mem_of_getElem? (i := 277) rfl, List.forall_mem_cons.mpr ⟨List.mem_of_getElem? (i := 278) rfl, List.forall_mem_cons.mpr ⟨List.mem_of_getElem? (i := 279) rfl, List.forall_mem_cons.mpr ⟨List.mem_of_getElem? (i := 281) rfl, List.forall_mem_cons.mpr ⟨List.mem_of_getElem? (i := 283) rfl, List.forall_mem_cons.mpr ⟨List.mem_of_getElem? (i := 284) rfl, List.forall_mem_cons.mpr ⟨List.mem_of_getElem? (i := 286) rfl, List.forall_mem_cons.mpr ⟨List.mem_of_getElem? (i := 288) rfl, List.forall_mem_cons.mpr ⟨List.mem_of_getElem? (i := 289) rfl, List.forall_mem_cons.mpr ⟨List.mem_of_getElem? (i := 290) rfl, List.forall_mem_cons.mpr ⟨List.mem_of_getElem? (i := 291) rfl, List.forall_mem_cons.mpr ⟨List.mem_of_getElem? (i := 292) rfl, List.forall_mem_cons.mpr ⟨List.mem_of_getElem? (i := 293) rfl, List.forall_mem_cons.mpr ⟨List.mem_of_getElem? (i := 294) rfl, List.forall_mem_cons.mpr ⟨List.mem_of_getElem? (i := 295) rfl, List.forall_mem_cons.mpr ⟨List.mem_of_getElem? (i := 296) rfl, List.forall_mem_cons.mpr ⟨List.mem_of_getElem? (i := 297) rfl, List.forall_mem_cons.mpr ⟨List.mem_of_getElem? (i := 298) rfl, List.forall_mem_cons.mpr ⟨List.mem_of_getElem? (i := 299) rfl, List.forall_mem_cons.mpr ⟨List.mem_of_getElem? (i := 300) rfl, List.forall_mem_cons.mpr ⟨List.mem_of_getElem? (i := 301) rfl, List.forall_mem_cons.mpr ⟨List.mem_of_getElem? (i := 302) rfl, List.forall_mem_cons.mpr ⟨List.mem_of_getElem? (i := 303) rfl, List.forall_mem_cons.mpr ⟨List.mem_of_getElem? (i := 304) rfl, List.forall_mem_cons.mpr ⟨List.mem_of_getElem? (i := 305) rfl, List.forall_mem_cons.mpr ⟨List.mem_of_getElem? (i := 307) rfl, List.forall_mem_cons.mpr ⟨List.mem_of_getElem? (i := 308) rfl, List.forall_mem_cons.mpr ⟨List.mem_of_getElem? (i := 309) rfl, List.forall_mem_cons.mpr ⟨List.mem_of_getElem? (i := 310) rfl, List.forall_mem_cons.mpr ⟨List.mem_of_getElem? (i := 311) rfl, List.forall_mem_cons.mpr ⟨List.mem_of_getElem? (i := 312) rfl, fun _ h => absurd h List.not_mem_nil⟩⟩⟩⟩⟩⟩⟩⟩⟩⟩⟩⟩⟩⟩⟩⟩⟩⟩⟩⟩⟩⟩⟩⟩⟩⟩⟩⟩⟩⟩⟩⟩⟩⟩⟩⟩⟩⟩⟩⟩
set_option maxRecDepth 100000 in
theorem am_big_in6 : ∀ w ∈ am_big_6, w ∈ lw_tbl := List.forall_mem_cons.mpr ⟨List.mem_of_getElem? (i := 313) rfl, List.forall_mem_cons.mpr ⟨List.mem_of_getElem? (i := 314) rfl, List.forall_mem_cons.mpr ⟨List.mem_of_getElem? (i := 315) rfl, List.forall_mem_cons.mpr ⟨List.mem_of_getElem? (i := 316) rfl, List.forall_mem_cons.mpr ⟨List.mem_of_getElem? (i := 317) rfl, List.forall_mem_cons.mpr ⟨List.mem_of_getElem? (i := 318) rfl, List.forall_mem_cons.mpr ⟨List.mem_of_getElem? (i := 319) rfl, List.forall_mem_cons.mpr ⟨List.mem_of_getElem? (i := 320) rfl, List.forall_mem_cons.mpr ⟨List.mem_of_getElem? (i := 321) rfl, List.forall_mem_cons.mpr ⟨List.mem_of_getElem? (i := 322) rfl, List.forall_mem_cons.mpr ⟨List.mem_of_getElem? (i := 323) rfl, List.forall_mem_cons.mpr ⟨List.mem_of_getElem? (i := 324) rfl, List.forall_mem_cons.mpr ⟨List.mem_of_getElem? (i := 325) rfl, List.forall_mem_cons.mpr ⟨List.mem_of_getElem? (i := 326) rfl, List.forall_mem_cons.mpr ⟨List.mem_of_getElem? (i := 327) rfl, List.forall_mem_cons.mpr ⟨List.mem_of_getElem? (i := 328) rfl, List.forall_mem_cons.mpr ⟨List.mem_of_getElem? (i := 329) rfl, List.forall_mem_cons.mpr ⟨List.mem_of_getElem? (i := 330) rfl, List.forall_mem_cons.mpr ⟨List.mem_of_getElem? (i := 331) rfl, List.forall_mem_cons.mpr ⟨List.mem_of_getElem? (i := 332) rfl, List.forall_mem_cons.mpr ⟨List.mem_of_getElem? (i := 333) rfl, List.forall_mem_cons.mpr ⟨List.mem_of_getElem? (i := 334) rfl, List.forall_mem_cons.mpr ⟨List.mem_of_getElem? (i := 335) rfl, List.forall_mem_cons.mpr ⟨List.mem_of_getElem? (i := 336) rfl, List.forall_mem_cons.mpr ⟨List.mem_of_getElem? (i := 337) rfl, List.forall_mem_cons.mpr ⟨List.mem_of_getElem? (i := 338) rfl, List.forall_mem_cons.mpr ⟨List.mem_of_getElem? (i := 339) rfl, List.forall_mem_cons.mpr ⟨List.mem_of_getElem? (i := 340) rfl, List.forall_mem_cons.mpr ⟨List.mem_of_getElem? (i := 341) rfl, List.forall_mem_cons.mpr ⟨List.mem_of_getElem? (i := 342) rfl, List.forall_mem_cons.mpr ⟨List.mem_of_getElem? (i := 343) rfl, List.forall_mem_cons.mpr ⟨List.mem_of_getElem? (i := 344) rfl, List.forall_mem_cons.mpr ⟨List.mem_of_getElem? (i := 345) rfl, List.forall_mem_cons.mpr ⟨List.mem_of_getElem? (i := 347) rfl, List.forall_mem_cons.mpr ⟨List.mem_of_getElem? (i := 348) rfl, List.forall_mem_cons.mpr ⟨List.mem_of_getElem? (i := 349) rfl, List.forall_mem_cons.mpr ⟨List.mem_of_getElem? (i := 350) rfl, List.forall_mem_cons.mpr ⟨List.mem_of_getElem? (i := 351) rfl, List.forall_mem_cons.mpr ⟨List.mem_of_getElem? (i := 352) rfl, List.forall_mem_cons.mpr ⟨List.mem_of_getElem? (i := 354) rfl, fun _ h => absurd h List.not_mem_nil⟩⟩⟩⟩⟩⟩⟩⟩⟩⟩⟩⟩⟩⟩⟩⟩⟩⟩⟩⟩⟩⟩⟩⟩⟩⟩⟩⟩⟩⟩⟩⟩⟩⟩⟩⟩⟩⟩⟩⟩
set_option maxRecDepth 100000 in
theorem am_big_in7 : ∀ w ∈ am_big_7, w ∈ lw_tbl := List.forall_mem_cons.mpr ⟨List.mem_of_getElem? (i := 355) rfl, List.forall_mem_cons.mpr ⟨List.mem_of_getElem? (i := 357) rfl, List.forall_mem_cons.mpr ⟨List.mem_of_getElem? (i := 358) rfl, List.forall_mem_cons.mpr ⟨List.mem_of_getElem? (i := 359) rfl, List.forall_mem_cons.mpr ⟨List.mem_of_getElem? (i := 360) rfl, List.forall_mem_cons.mpr ⟨List.mem_of_getElem? (i := 361) rfl, List.forall_mem_cons.mpr ⟨List.mem_of_getElem? (i := 362) rfl, List.forall_mem_cons.mpr ⟨List.mem_of_getElem? (i := 363) rfl, List.forall_mem_cons.mpr ⟨List.mem_of_getElem? (i := 364) rfl, List.forall_mem_cons.mpr ⟨List.mem_of_getElem? (i := 365) rfl, List.forall_mem_cons.mpr ⟨List.mem_of_getElem? (i := 366) rfl, List.forall_mem_cons.mpr ⟨List.mem_of_getElem? (i := 367) rfl, List.forall_mem_cons.mpr ⟨List.mem_of_getElem? (i := 368) rfl, List.forall_mem_cons.mpr ⟨List.mem_of_getElem? (i := 376) rfl, List.forall_mem_cons.mpr ⟨List.mem_of_getElem? (i := 377) rfl, List.forall_mem_cons.mpr ⟨List.mem_of_getElem? (i := 378) rfl, List.forall_mem_cons.mpr ⟨List.mem_of_getElem? (i := 379) rfl, List.forall_mem_cons.mpr ⟨List.mem_of_getElem? (i := 380) rfl, List.forall_mem_cons.mpr ⟨List.mem_of_getElem? (i := 381) rfl, List.forall_mem_cons.mpr ⟨List.mem_of_getElem? (i := 382) rfl, List.forall_mem_cons.mpr ⟨List.mem_of_getElem? (i := 383) rfl, List.forall_mem_cons.mpr ⟨List.mem_of_getElem? (i := 384) rfl, List.forall_mem_cons.mpr ⟨List.mem_of_getElem? (i := 385) rfl, List.forall_mem_cons.mpr ⟨List.mem_of_getElem? (i := 386) rfl, List.forall_mem_cons.mpr ⟨List.mem_of_getElem? (i := 387) rfl, List.forall_mem_cons.mpr ⟨List.mem_of_getElem? (i := 388) rfl, List.forall_mem_cons.mpr ⟨List.mem_of_getElem? (i := 389) rfl, List.forall_mem_cons.mpr ⟨List.mem_of_getElem? (i := 390) rfl, List.forall_mem_cons.mpr ⟨List.mem_of_getElem? (i := 391) rfl, List.forall_mem_cons.mpr ⟨List.mem_of_getElem? (i := 392) rfl, List.forall_mem_cons.mpr ⟨List.mem_of_getElem? (i := 393) rfl, List.forall_mem_cons.mpr ⟨List.mem_of_getElem? (i := 395) rfl, List.forall_mem_cons.mpr ⟨List.mem_of_getElem? (i := 397) rfl, List.forall_mem_cons.mpr ⟨List.mem_of_getElem? (i := 398) rfl, List.forall_mem_cons.mpr ⟨List.mem_of_getElem? (i := 399) rfl, List.forall_mem_cons.mpr ⟨List.mem_of_getElem? (i := 400) rfl, List.forall_mem_cons.mpr ⟨List.mem_of_getElem? (i := 401) rfl, List.forall_mem_cons.mpr ⟨List.mem_of_getElem? (i := 402) rfl, List.forall_mem_cons.mpr ⟨List.mem_of_getElem? (i := 403) rfl, List.forall_mem_cons.mpr ⟨List.mem_of_getElem? (i := 405) rfl, fun _ h => absurd h List.not_mem_nil⟩⟩⟩⟩⟩⟩⟩⟩⟩⟩⟩⟩⟩⟩⟩⟩⟩⟩⟩⟩⟩⟩⟩⟩⟩⟩⟩⟩⟩⟩⟩⟩⟩⟩⟩⟩⟩⟩⟩⟩
set_option maxRecDepth 100000 in
theorem am_big_in8 : ∀ w ∈ am_big_8, w ∈ lw_tbl := List.forall_mem_cons.mpr ⟨List.mem_of_getElem? (i := 406) rfl, List.forall_mem_cons.mpr ⟨List.mem_of_getElem? (i := 409) rfl, List.forall_mem_cons.mpr ⟨List.mem_of_getElem? (i := 410) rfl, List.forall_mem_cons.mpr ⟨List.mem_of_getElem? (i := 411) rfl, List.forall_mem_cons.mpr ⟨List.mem_of_getElem? (i := 412) rfl, List.forall_mem_cons.mpr ⟨List.mem_of_getElem? (i := 413) rfl, List.forall_mem_cons.mpr ⟨List.mem_of_getElem? (i := 414) rfl, List.forall_mem_cons.mpr ⟨List.mem_of_getElem? (i := 415) rfl, List.forall_mem_cons.mpr ⟨List.mem_of_getElem? (i := 416) rfl, List.forall_mem_cons.mpr ⟨List.mem_of_getElem? (i := 417) rfl, List.forall_mem_cons.mpr ⟨List.mem_of_getElem? (i := 418) rfl, List.forall_mem_cons.mpr ⟨List.mem_of_getElem? (i := 419) rfl, List.forall_mem_cons.mpr ⟨List.mem_of_getElem? (i := 420) rfl, List.forall_mem_cons.mpr ⟨List.mem_of_getElem? (i := 422) rfl, List.forall_mem_cons.mpr ⟨List.mem_of_getElem? (i := 423) rfl, List.forall_mem_cons.mpr ⟨List.mem_of_getElem? (i := 424) rfl, List.forall_mem_cons.mpr ⟨List.mem_of_getElem? (i := 425) rfl, List.forall_mem_cons.mpr ⟨List.mem_of_getElem? (i := 430) rfl, List.forall_mem_cons.mpr ⟨List.mem_of_getElem? (i := 433) rfl, List.forall_mem_cons.mpr ⟨List.mem_of_getElem? (i := 434) rfl, List.forall_mem_cons.mpr ⟨List.mem_of_getElem? (i := 435) rfl, List.forall_mem_cons.mpr ⟨List.mem_of_getElem? (i := 437) rfl, List.forall_mem_cons.mpr ⟨List.mem_of_getElem? (i := 438) rfl, List.forall_mem_cons.mpr ⟨List.mem_of_getElem? (i := 439) rfl, List.forall_mem_cons.mpr ⟨List.mem_of_getElem? (i := 441) rfl, List.forall_mem_cons.mpr ⟨List.mem_of_getElem? (i := 442) rfl, List.forall_mem_cons.mpr ⟨List.mem_of_getElem? (i := 443) rfl, List.forall_mem_cons.mpr ⟨List.mem_of_getElem? (i := 444) rfl, List.forall_mem_cons.mpr ⟨List.mem_of_getElem? (i := 445) rfl, List.forall_mem_cons.mpr ⟨List.mem_of_getElem? (i := 446) rfl, List.forall_mem_cons.mpr ⟨List.mem_of_getElem? (i := 447) rfl, List.forall_mem_cons.mpr ⟨List.mem_of_getElem? (i := 448) rfl, List.forall_mem_cons.mpr ⟨List.mem_of_getElem? (i := 449) rfl, List.forall_mem_cons.mpr ⟨List.mem_of_getElem? (i := 450) rfl, List.forall_mem_cons.mpr ⟨List.mem_of_getElem? (i := 451) rfl, List.forall_mem_cons.mpr ⟨List.mem_of_getElem? (i := 452) rfl, List.forall_mem_cons.mpr ⟨List.mem_of_getElem? (i := 453) rfl, List.forall_mem_cons.mpr ⟨List.mem_of_getElem? (i := 454) rfl, List.forall_mem_cons.mpr ⟨List.mem_of_getElem? (i := 455) rfl, List.forall_mem_cons.mpr ⟨List.mem_of_getElem? (i := 456) rfl, fun _ h => absurd h List.not_mem_nil⟩⟩⟩⟩⟩⟩⟩⟩⟩⟩⟩⟩⟩⟩⟩⟩⟩⟩⟩⟩⟩⟩⟩⟩⟩⟩⟩⟩⟩⟩⟩⟩⟩⟩⟩⟩⟩⟩⟩⟩
set_option maxRecDepth 100000 in
theorem am_big_in9 : ∀ w ∈ am_big_9, w ∈ lw_tbl := List.forall_mem_cons.mpr ⟨List.mem_of_getElem? (i := 457) rfl, List.forall_mem_cons.mpr ⟨List.mem_of_getElem? (i := 458) rfl, List.forall_mem_cons.mpr ⟨List.mem_of_getElem? (i := 459) rfl, List.forall_mem_cons.mpr ⟨List.mem_of_getElem? (i := 461) rfl, List.forall_mem_cons.mpr ⟨List.mem_of_getElem? (i := 462) rfl, List.forall_mem_cons.mpr ⟨List.mem_of_getElem? (i := 463) rfl, List.forall_mem_cons.mpr ⟨List.mem_of_getElem? (i := 464) rfl, List.forall_mem_cons.mpr ⟨List.mem_of_getElem? (i := 465) rfl, List.forall_mem_cons.mpr ⟨List.mem_of_getElem? (i := 466) rfl, List.forall_mem_cons.mpr ⟨List.mem_of_getElem? (i := 468) rfl, List.forall_mem_cons.mpr ⟨List.mem_of_getElem? (i := 469) rfl, List.forall_mem_cons.mpr ⟨List.mem_of_getElem? (i := 470) rfl, List.forall_mem_cons.mpr ⟨List.mem_of_getElem? (i := 471) rfl, List.forall_mem_cons.mpr ⟨List.mem_of_getElem? (i := 472) rfl, List.forall_mem_cons.mpr ⟨List.mem_of_getElem? (i := 473) rfl, List.forall_mem_cons.mpr ⟨List.mem_of_getElem? (i := 475) rfl, List.forall_mem_cons.mpr ⟨List.mem_of_getElem? (i := 476) rfl, List.forall_mem_cons.mpr ⟨List.mem_of_getElem? (i := 477) rfl, List.forall_mem_cons.mpr ⟨List.mem_of_getElem? (i := 478) rfl, List.forall_mem_cons.mpr ⟨List.mem_of_getElem? (i := 479) rfl, List.forall_mem_cons.mpr ⟨List.mem_of_getElem? (i := 480) rfl, List.forall_mem_cons.mpr ⟨List.mem_of_getElem? (i := 481) rfl, List.forall_mem_cons.mpr ⟨List.mem_of_getElem? (i := 482) rfl, List.forall_mem_cons.mpr ⟨List.mem_of_getElem? (i := 483) rfl, List.forall_mem_cons.mpr ⟨List.mem_of_getElem? (i := 484) rfl, List.forall_mem_cons.mpr ⟨List.mem_of_getElem? (i := 485) rfl, List.forall_mem_cons.mpr ⟨List.mem_of_getElem? (i := 486) rfl, List.forall_mem_cons.mpr ⟨List.mem_of_getElem? (i := 487) rfl, List.forall_mem_cons.mpr ⟨List.mem_of_getElem? (i := 489) rfl, List.forall_mem_cons.mpr ⟨List.mem_of_getElem? (i := 490) rfl, List.forall_mem_cons.mpr ⟨List.mem_of_getElem? (i := 491) rfl, List.forall_mem_cons.mpr ⟨List.mem_of_getElem? (i := 492) rfl, List.forall_mem_cons.mpr ⟨List.mem_of_getElem? (i := 494) rfl, List.forall_mem_cons.mpr ⟨List.mem_of_getElem? (i := 495) rfl, List.forall_mem_cons.mpr ⟨List.mem_of_getElem? (i := 496) rfl, List.forall_mem_cons.mpr ⟨List.mem_of_getElem? (i := 497) rfl, List.forall_mem_cons.mpr ⟨List.mem_of_getElem? (i := 498) rfl, List.forall_mem_cons.mpr ⟨List.mem_of_getElem? (i := 499) rfl, List.forall_mem_cons.mpr ⟨List.mem_of_getElem? (i := 501) rfl, List.forall_mem_cons.mpr ⟨List.mem_of_getElem? (i := 502) rfl, fun _ h => absurd h List.not_mem_nil⟩⟩⟩⟩⟩⟩⟩⟩⟩⟩⟩⟩⟩⟩⟩⟩⟩⟩⟩⟩⟩⟩⟩⟩⟩⟩⟩⟩⟩⟩⟩⟩⟩⟩⟩⟩⟩⟩⟩⟩
set_option maxRecDepth 100000 in
theorem am_big_in10 : ∀ w ∈ am_big_10, w ∈ lw_tbl := List.forall_mem_cons.mpr ⟨List.mem_of_getElem? (i := 503) rfl, List.forall_mem_cons.mpr ⟨List.mem_of_getElem? (i := 504) rfl, List.forall_mem_cons.mpr ⟨List.mem_of_getElem? (i := 505) rfl, List.forall_mem_cons.mpr ⟨List.mem_of_getElem? (i := 506) rfl, List.forall_mem_cons.mpr ⟨List.mem_of_getElem? (i := 507) rfl, List.forall_mem_cons.mpr ⟨List.mem_of_getElem? (i := 509) rfl, List.forall_mem_cons.mpr ⟨List.mem_of_getElem? (i := 510) rfl, List.forall_mem_cons.mpr ⟨List.mem_of_getElem? (i := 512) rfl, List.forall_mem_cons.mpr ⟨List.mem_of_getElem? (i := 513) rfl, List.forall_mem_cons.mpr ⟨List.mem_of_getElem? (i := 514) rfl, List.forall_mem_cons.mpr ⟨List.mem_of_getElem? (i := 515) rfl, List.forall_mem_cons.mpr ⟨List.mem_of_getElem? (i := 516) rfl, List.forall_mem_cons.mpr ⟨List.mem_of_getElem? (i := 517) rfl, List.forall_mem_cons.mpr ⟨List.mem_of_getElem? (i := 518) rfl, List.forall_mem_cons.mpr ⟨List.mem_of_getElem? (i := 519) rfl, List.forall_mem_cons.mpr ⟨List.mem_of_getElem? (i := 521) rfl, List.forall_mem_cons.mpr ⟨List.mem_of_getElem? (i := 522) rfl, List.forall_mem_cons.mpr ⟨List.mem_of_getElem? (i := 523) rfl, List.forall_mem_cons.mpr ⟨List.mem_of_getElem? (i := 524) rfl, List.forall_mem_cons.mpr ⟨List.mem_of_getElem? (i := 525) rfl, List.forall_mem_cons.mpr ⟨List.mem_of_getElem? (i := 526) rfl, List.forall_mem_cons.mpr ⟨List.mem_of_getElem? (i := 527) rfl, List.forall_mem_cons.mpr ⟨List.mem_of_getElem? (i := 529) rfl, List.forall_mem_cons.mpr ⟨List.mem_of_getElem? (i := 530) rfl, List.forall_mem_cons.mpr ⟨List.mem_of_getElem? (i := 531) rfl, List.forall_mem_cons.mpr ⟨List.mem_of_getElem? (i := 532) rfl, List.forall_mem_cons.mpr ⟨List.mem_of_getElem? (i := 533) rfl, List.forall_mem_cons.mpr ⟨List.mem_of_getElem? (i := 534) rfl, List.forall_mem_cons.mpr ⟨List.mem_of_getElem? (i := 535) rfl, List.forall_mem_cons.mpr ⟨List.mem_of_getElem? (i := 536) rfl, List.forall_mem_cons.mpr ⟨List.mem_of_getElem? (i := 537) rfl, List.forall_mem_cons.mpr ⟨List.mem_of_getElem? (i := 538) rfl, List.forall_mem_cons.mpr ⟨List.mem_of_getElem? (i := 539) rfl, List.forall_mem_cons.mpr ⟨List.mem_of_getElem? (i := 540) rfl, List.forall_mem_cons.mpr ⟨List.mem_of_getElem? (i := 541) rfl, List.forall_mem_cons.mpr ⟨List.mem_of_getElem? (i := 542) rfl, List.forall_mem_cons.mpr ⟨List.mem_of_getElem? (i := 543) rfl, List.forall_mem_cons.mpr ⟨List.mem_of_getElem? (i := 545) rfl, List.forall_mem_cons.mpr ⟨List.mem_of_getElem? (i := 546) rfl, List.forall_mem_cons.mpr ⟨List.mem_of_getElem? (i := 548) rfl, fun _ h => absurd h List.not_mem_nil⟩⟩⟩⟩⟩⟩⟩⟩⟩⟩⟩⟩⟩⟩⟩⟩⟩⟩⟩⟩⟩⟩⟩⟩⟩⟩⟩⟩⟩⟩⟩⟩⟩⟩⟩⟩⟩⟩⟩⟩
set_option maxRecDepth 100000 in
theorem am_big_in11 : ∀ w ∈ am_big_11, w ∈ lw_tbl := List.forall_mem_cons.mpr ⟨List.mem_of_getElem? (i := 550) rfl, List.forall_mem_cons.mpr ⟨List.mem_of_getElem? (i := 551) rfl, List.forall_mem_cons.mpr ⟨List.mem_of_getElem? (i := 553) rfl, List.forall_mem_cons.mpr ⟨List.mem_of_getElem? (i := 554) rfl, List.forall_mem_cons.mpr ⟨List.mem_of_getElem? (i := 555) rfl, List.forall_mem_cons.mpr ⟨List.mem_of_getElem? (i := 556) rfl, List.forall_mem_cons.mpr ⟨List.mem_of_getElem? (i := 557) rfl, List.forall_mem_cons.mpr ⟨List.mem_of_getElem? (i := 558) rfl, List.forall_mem_cons.mpr ⟨List.mem_of_getElem? (i := 559) rfl, List.forall_mem_cons.mpr ⟨List.mem_of_getElem? (i := 560) rfl, List.forall_mem_cons.mpr ⟨List.mem_of_getElem? (i := 561) rfl, List.forall_mem_cons.mpr ⟨List.mem_of_getElem? (i := 562) rfl, List.forall_mem_cons.mpr ⟨List.mem_of_getElem? (i := 563) rfl, List.forall_mem_cons.mpr ⟨List.mem_of_getElem? (i := 564) rfl, List.forall_mem_cons.mpr ⟨List.mem_of_getElem? (i := 565) rfl, List.forall_mem_cons.mpr ⟨List.mem_of_getElem? (i := 566) rfl, List.forall_mem_cons.mpr ⟨List.mem_of_getElem? (i := 567) rfl, List.forall_mem_cons.mpr ⟨List.mem_of_getElem? (i := 568) rfl, List.forall_mem_cons.mpr ⟨List.mem_of_getElem? (i := 569) rfl, List.forall_mem_cons.mpr ⟨List.mem_of_getElem? (i := 570) rfl, List.forall_mem_cons.mpr ⟨List.mem_of_getElem? (i := 571) rfl, List.forall_mem_cons.mpr ⟨List.mem_of_getElem? (i := 572) rfl, List.forall_mem_cons.mpr ⟨List.mem_of_getElem? (i := 573) rfl, List.forall_mem_cons.mpr ⟨List.mem_of_getElem? (i := 574) rfl, List.forall_mem_cons.mpr ⟨List.mem_of_getElem? (i := 575) rfl, List.forall_mem_cons.mpr ⟨List.mem_of_getElem? (i := 576) rfl, List.forall_mem_cons.mpr ⟨List.mem_of_getElem? (i := 577) rfl, List.forall_mem_cons.mpr ⟨List.mem_of_getElem? (i := 578) rfl, List.forall_mem_cons.mpr ⟨List.mem_of_getElem? (i := 579) rfl, List.forall_mem_cons.mpr ⟨List.mem_of_getElem? (i := 580) rfl, List.forall_mem_cons.mpr ⟨List.mem_of_getElem? (i := 581) rfl, List.forall_mem_cons.mpr ⟨List.mem_of_getElem? (i := 582) rfl, List.forall_mem_cons.mpr ⟨List.mem_of_getElem? (i := 583) rfl, List.forall_mem_cons.mpr ⟨List.mem_of_getElem? (i := 584) rfl, List.forall_mem_cons.mpr ⟨List.mem_of_getElem? (i := 585) rfl, List.forall_mem_cons.mpr ⟨List.mem_of_getElem? (i := 586) rfl, List.forall_mem_cons.mpr ⟨List.mem_of_getElem? (i := 587) rfl, List.forall_mem_cons.mpr ⟨List.mem_of_getElem? (i := 588) rfl, List.forall_mem_cons.mpr ⟨List.mem_of_getElem? (i := 589) rfl, List.forall_mem_cons.mpr ⟨List.mem_of_getElem? (i := 590) rfl, fun _ h => absurd h List.not_mem_nil⟩⟩⟩⟩⟩⟩⟩⟩⟩⟩⟩⟩⟩⟩⟩⟩⟩⟩⟩⟩⟩⟩⟩⟩⟩⟩⟩⟩⟩⟩⟩⟩⟩⟩⟩⟩⟩⟩⟩⟩
set_option maxRecDepth 100000 in
theorem am_big_in12 : ∀ w ∈ am_big_12, w ∈ lw_tbl := List.forall_mem_cons.mpr ⟨List.mem_of_getElem? (i := 591) rfl, List.forall_mem_cons.mpr ⟨List.mem_of_getElem? (i := 592) rfl, List.forall_mem_cons.mpr ⟨List.mem_of_getElem? (i := 593) rfl, List.forall_mem_cons.mpr ⟨List.mem_of_getElem? (i := 594) rfl, List.forall_mem_cons.mpr ⟨List.mem_of_getElem? (i := 595) rfl, List.forall_mem_cons.mpr ⟨List.mem_of_getElem? (i := 596) rfl, List.forall_mem_cons.mpr ⟨List.mem_of_getElem? (i := 597) rfl, List.forall_mem_cons.mpr ⟨List.mem_of_getElem? (i := 598) rfl, List.forall_mem_cons.mpr ⟨List.mem_of_getElem? (i := 599) rfl, List.forall_mem_cons.mpr ⟨List.mem_of_getElem? (i := 600) rfl, List.forall_mem_cons.mpr ⟨List.mem_of_getElem? (i := 601) rfl, List.forall_mem_cons.mpr ⟨List.mem_of_getElem? (i := 602) rfl, List.forall_mem_cons.mpr ⟨List.mem_of_getElem? (i := 603) rfl, List.forall_mem_cons.mpr ⟨List.mem_of_getElem? (i := 604) rfl, List.forall_mem_cons.mpr ⟨List.mem_of_getElem? (i := 605) rfl, List.forall_mem_cons.mpr ⟨List.mem_of_getElem? (i := 606) rfl, List.forall_mem_cons.mpr ⟨List.mem_of_getElem? (i := 607) rfl, List.forall_mem_cons.mpr ⟨List.mem_of_getElem? (i := 610) rfl, List.forall_mem_cons.mpr ⟨List.mem_of_getElem? (i := 611) rfl, List.forall_mem_cons.mpr ⟨List.mem_of_getElem? (i := 612) rfl, List.forall_mem_cons.mpr ⟨List.mem_of_getElem? (i := 613) rfl, List.forall_mem_cons.mpr ⟨List.mem_of_getElem? (i := 614) rfl, List.forall_mem_cons.mpr ⟨List.mem_of_getElem? (i := 615) rfl, List.forall_mem_cons.mpr ⟨List.mem_of_getElem? (i := 616) rfl, List.forall_mem_cons.mpr ⟨List.mem_of_getElem? (i := 619) rfl, List.forall_mem_cons.mpr ⟨List.mem_of_getElem? (i := 620) rfl, List.forall_mem_cons.mpr ⟨List.mem_of_getElem? (i := 621) rfl, List.forall_mem_cons.mpr ⟨List.mem_of_getElem? (i := 622) rfl, List.forall_mem_cons.mpr ⟨List.mem_of_getElem? (i := 623) rfl, List.forall_mem_cons.mpr ⟨List.mem_of_getElem? (i := 624) rfl, List.forall_mem_cons.mpr ⟨List.mem_of_getElem? (i := 626) rfl, List.forall_mem_cons.mpr ⟨List.mem_of_getElem? (i := 627) rfl, List.forall_mem_cons.mpr ⟨List.mem_of_getElem? (i := 628) rfl, List.forall_mem_cons.mpr ⟨List.mem_of_getElem? (i := 629) rfl, List.forall_mem_cons.mpr ⟨List.mem_of_getElem? (i := 630) rfl, List.forall_mem_cons.mpr ⟨List.mem_of_getElem? (i := 631) rfl, List.forall_mem_cons.mpr ⟨List.mem_of_getElem? (i := 632) rfl, List.forall_mem_cons.mpr ⟨List.mem_of_getElem? (i := 634) rfl, List.forall_mem_cons.mpr ⟨List.mem_of_getElem? (i := 635) rfl, List.forall_mem_cons.mpr ⟨List.mem_of_getElem? (i := 636) rfl, fun _ h => absurd h List.not_mem_nil⟩⟩⟩⟩⟩⟩⟩⟩⟩⟩⟩⟩⟩⟩⟩⟩⟩⟩⟩⟩⟩⟩⟩⟩⟩⟩⟩⟩⟩⟩⟩⟩⟩⟩⟩⟩⟩⟩⟩⟩
set_option maxRecDepth 100000 in
theorem am_big_in13 : ∀ w ∈ am_big_13, w ∈ lw_tbl := List.forall_mem_cons.mpr ⟨List.mem_of_getElem? (i := 637) rfl, List.forall_mem_cons.mpr ⟨List.mem_of_getElem? (i := 638) rfl, List.forall_mem_cons.mpr ⟨List.mem_of_getElem? (i := 639) rfl, List.forall_mem_cons.mpr ⟨List.mem_of_getElem? (i := 640) rfl, List.forall_mem_cons.mpr ⟨List.mem_of_getElem? (i := 641) rfl, List.forall_mem_cons.mpr ⟨List.mem_of_getElem? (i := 643) rfl, List.forall_mem_cons.mpr ⟨List.mem_of_getElem? (i := 644) rfl, List.forall_mem_cons.mpr ⟨List.mem_of_getElem? (i := 646) rfl, List.forall_mem_cons.mpr ⟨List.mem_of_getElem? (i := 647) rfl, List.forall_mem_cons.mpr ⟨List.mem_of_getElem? (i := 648) rfl, List.forall_mem_cons.mpr ⟨List.mem_of_getElem? (i := 649) rfl, List.forall_mem_cons.mpr ⟨List.mem_of_getElem? (i := 650) rfl, List.forall_mem_cons.mpr ⟨List.mem_of_getElem? (i := 651) rfl, List.forall_mem_cons.mpr ⟨List.mem_of_getElem? (i := 652) rfl, List.forall_mem_cons.mpr ⟨List.mem_of_getElem? (i := 654) rfl, List.forall_mem_cons.mpr ⟨List.mem_of_getElem? (i := 655) rfl, List.forall_mem_cons.mpr ⟨List.mem_of_getElem? (i := 656) rfl, List.forall_mem_cons.mpr ⟨List.mem_of_getElem? (i := 658) rfl, List.forall_mem_cons.mpr ⟨List.mem_of_getElem? (i := 659) rfl, List.forall_mem_cons.mpr ⟨List.mem_of_getElem? (i := 660) rfl, List.forall_mem_cons.mpr ⟨List.mem_of_getElem? (i := 661) rfl, List.forall_mem_cons.mpr ⟨List.mem_of_getElem? (i := 662) rfl, List.forall_mem_cons.mpr ⟨List.mem_of_getElem? (i := 663) rfl, List.forall_mem_cons.mpr ⟨List.mem_of_getElem? (i := 664) rfl, List.forall_mem_cons.mpr ⟨List.mem_of_getElem? (i := 665) rfl, List.forall_mem_cons.mpr ⟨List.mem_of_getElem? (i := 666) rfl, List.forall_mem_cons.mpr ⟨List.mem_of_getElem? (i := 667) rfl, List.forall_mem_cons.mpr ⟨List.mem_of_getElem? (i := 668) rfl, List.forall_mem_cons.mpr ⟨List.mem_of_getElem? (i := 669) rfl, List.forall_mem_cons.mpr ⟨List.mem_of_getElem? (i := 670) rfl, List.forall_mem_cons.mpr ⟨List.mem_of_getElem? (i := 671) rfl, List.forall_mem_cons.mpr ⟨List.mem_of_getElem? (i := 672) rfl, List.forall_mem_cons.mpr ⟨List.mem_of_getElem? (i := 674) rfl, List.forall_mem_cons.mpr ⟨List.mem_of_getElem? (i := 675) rfl, List.forall_mem_cons.mpr ⟨List.mem_of_getElem? (i := 676) rfl, List.forall_mem_cons.mpr ⟨List.mem_of_getElem? (i := 677) rfl, List.forall_mem_cons.mpr ⟨List.mem_of_getElem? (i := 678) rfl, List.forall_mem_cons.mpr ⟨List.mem_of_getElem? (i := 679) rfl, List.forall_mem_cons.mpr ⟨List.mem_of_getElem? (i := 680) rfl, List.forall_mem_cons.mpr ⟨List.mem_of_getElem? (i := 681) rfl, fun _ h => absurd h List.not_mem_nil⟩⟩⟩⟩⟩⟩⟩⟩⟩⟩⟩⟩⟩⟩⟩⟩⟩⟩⟩⟩⟩⟩⟩⟩⟩⟩⟩⟩⟩⟩⟩⟩⟩⟩⟩⟩⟩⟩⟩⟩
set_option maxRecDepth 100000 in
theorem am_big_in14 : ∀ w ∈ am_big_14, w ∈ lw_tbl := List.forall_mem_cons.mpr ⟨List.mem_of_getElem? (i := 682) rfl, List.forall_mem_cons.mpr ⟨List.mem_of_getElem? (i := 683) rfl, List.forall_mem_cons.mpr ⟨List.mem_of_getElem? (i := 684) rfl, List.forall_mem_cons.mpr ⟨List.mem_of_getElem? (i := 685) rfl, List.forall_mem_cons.mpr ⟨List.mem_of_getElem? (i := 686) rfl, List.forall_mem_cons.mpr ⟨List.mem_of_getElem? (i := 687) rfl, List.forall_mem_cons.mpr ⟨List.mem_of_getElem? (i := 688) rfl, List.forall_mem_cons.mpr ⟨List.mem_of_getElem? (i := 689) rfl, List.forall_mem_cons.mpr ⟨List.mem_of_getElem? (i := 691) rfl, List.forall_mem_cons.mpr ⟨List.mem_of_getElem? (i := 692) rfl, List.forall_mem_cons.mpr ⟨List.mem_of_getElem? (i := 693) rfl, List.forall_mem_cons.mpr ⟨List.mem_of_getElem? (i := 694) rfl, List.forall_mem_cons.mpr ⟨List.mem_of_getElem? (i := 695) rfl, List.forall_mem_cons.mpr ⟨List.mem_of_getElem? (i := 696) rfl, List.forall_mem_cons.mpr ⟨List.mem_of_getElem? (i := 697) rfl, List.forall_mem_cons.mpr ⟨List.mem_of_getElem? (i := 698) rfl, List.forall_mem_cons.mpr ⟨List.mem_of_getElem? (i := 700) rfl, List.forall_mem_cons.mpr ⟨List.mem_of_getElem? (i := 701) rfl, List.forall_mem_cons.mpr ⟨List.mem_of_getElem? (i := 702) rfl, List.forall_mem_cons.mpr ⟨List.mem_of_getElem? (i := 703) rfl, List.forall_mem_cons.mpr ⟨List.mem_of_getElem? (i := 704) rfl, List.forall_mem_cons.mpr ⟨List.mem_of_getElem? (i := 705) rfl, List.forall_mem_cons.mpr ⟨List.mem_of_getElem? (i := 706) rfl, List.forall_mem_cons.mpr ⟨List.mem_of_getElem? (i := 707) rfl, List.forall_mem_cons.mpr ⟨List.mem_of_getElem? (i := 708) rfl, List.forall_mem_cons.mpr ⟨List.mem_of_getElem? (i := 709) rfl, List.forall_mem_cons.mpr ⟨List.mem_of_getElem? (i := 710) rfl, List.forall_mem_cons.mpr ⟨List.mem_of_getElem? (i := 711) rfl, List.forall_mem_cons.mpr ⟨List.mem_of_getElem? (i := 712) rfl, List.forall_mem_cons.mpr ⟨List.mem_of_getElem? (i := 713) rfl, List.forall_mem_cons.mpr ⟨List.mem_of_getElem? (i := 714) rfl, List.forall_mem_cons.mpr ⟨List.mem_of_getElem? (i := 715) rfl, List.forall_mem_cons.mpr ⟨List.mem_of_getElem? (i := 716) rfl, List.forall_mem_cons.mpr ⟨List.mem_of_getElem? (i := 717) rfl, List.forall_mem_cons.mpr ⟨List.mem_of_getElem? (i := 718) rfl, List.forall_mem_cons.mpr ⟨List.mem_of_getElem? (i := 719) rfl, List.forall_mem_cons.mpr ⟨List.mem_of_getElem? (i := 720) rfl, List.forall_mem_cons.mpr ⟨List.mem_of_getElem? (i := 721) rfl, List.forall_mem_cons.mpr ⟨List.mem_of_getElem? (i := 722) rfl, List.forall_mem_cons.mpr ⟨List.mem_of_getElem? (i := 723) rfl, fun _ h => absurd h List.not_mem_nil⟩⟩⟩⟩⟩⟩⟩⟩⟩⟩⟩⟩⟩⟩⟩⟩⟩⟩⟩⟩⟩⟩⟩⟩⟩⟩⟩⟩⟩⟩⟩⟩⟩⟩⟩⟩⟩⟩⟩⟩
set_option maxRecDepth 100000 in
theorem am_big_in15 : ∀ w ∈ am_big_15, w ∈ lw_tbl := List.forall_mem_cons.mpr ⟨List.mem_of_getElem? (i := 724) rfl, List.forall_mem_cons.mpr ⟨List.mem_of_getElem? (i := 725) rfl, List.forall_mem_cons.mpr ⟨List.mem_of_getElem? (i := 726) rfl, List.forall_mem_cons.mpr ⟨List.mem_of_getElem? (i := 727) rfl, List.forall_mem_cons.mpr ⟨List.mem_of_getElem? (i := 730) rfl, List.forall_mem_cons.mpr ⟨List.mem_of_getElem? (i := 731) rfl, List.forall_mem_cons.mpr ⟨List.mem_of_getElem? (i := 732) rfl, List.forall_mem_cons.mpr ⟨List.mem_of_getElem? (i := 733) rfl, List.forall_mem_cons.mpr ⟨List.mem_of_getElem? (i := 737) rfl, List.forall_mem_cons.mpr ⟨List.mem_of_getElem? (i := 738) rfl, List.forall_mem_cons.mpr ⟨List.mem_of_getElem? (i := 739) rfl, List.forall_mem_cons.mpr ⟨List.mem_of_getElem? (i := 740) rfl, List.forall_mem_cons.mpr ⟨List.mem_of_getElem? (i := 741) rfl, List.forall_mem_cons.mpr ⟨List.mem_of_getElem? (i := 742) rfl, List.forall_mem_cons.mpr ⟨List.mem_of_getElem? (i := 743) rfl, List.forall_mem_cons.mpr ⟨List.mem_of_getElem? (i := 744) rfl, List.forall_mem_cons.mpr ⟨List.mem_of_getElem? (i := 745) rfl, List.forall_mem_cons.mpr ⟨List.mem_of_getElem? (i := 746) rfl, List.forall_mem_cons.mpr ⟨List.mem_of_getElem? (i := 747) rfl, List.forall_mem_cons.mpr ⟨List.mem_of_getElem? (i := 748) rfl, List.forall_mem_cons.mpr ⟨List.mem_of_getElem? (i := 749) rfl, List.forall_mem_cons.mpr ⟨List.mem_of_getElem? (i := 750) rfl, List.forall_mem_cons.mpr ⟨List.mem_of_getElem? (i := 751) rfl, List.forall_mem_cons.mpr ⟨List.mem_of_getElem? (i := 753) rfl, List.forall_mem_cons.mpr ⟨List.mem_of_getElem? (i := 754) rfl, List.forall_mem_cons.mpr ⟨List.mem_of_getElem? (i := 755) rfl, List.forall_mem_cons.mpr ⟨List.mem_of_getElem? (i := 756) rfl, List.forall_mem_cons.mpr ⟨List.mem_of_getElem? (i := 757) rfl, List.forall_mem_cons.mpr ⟨List.mem_of_getElem? (i := 758) rfl, List.forall_mem_cons.mpr ⟨List.mem_of_getElem? (i := 760) rfl, List.forall_mem_cons.mpr ⟨List.mem_of_getElem? (i := 762) rfl, List.forall_mem_cons.mpr ⟨List.mem_of_getElem? (i := 763) rfl, List.forall_mem_cons.mpr ⟨List.mem_of_getElem? (i := 764) rfl, List.forall_mem_cons.mpr ⟨List.mem_of_getElem? (i := 765) rfl, List.forall_mem_cons.mpr ⟨List.mem_of_getElem? (i := 766) rfl, List.forall_mem_cons.mpr ⟨List.mem_of_getElem? (i := 770) rfl, List.forall_mem_cons.mpr ⟨List.mem_of_getElem? (i := 771) rfl, List.forall_mem_cons.mpr ⟨List.mem_of_getElem? (i := 772) rfl, List.forall_mem_cons.mpr ⟨List.mem_of_getElem? (i := 773) rfl, List.forall_mem_cons.mpr ⟨List.mem_of_getElem? (i := 774) rfl, fun _ h => absurd h List.not_mem_nil⟩⟩⟩⟩⟩⟩⟩⟩⟩⟩⟩⟩⟩⟩⟩⟩⟩⟩⟩⟩⟩⟩⟩⟩⟩⟩⟩⟩⟩⟩⟩⟩⟩⟩⟩⟩⟩⟩⟩⟩
set_option maxRecDepth 100000 in
theorem am_big_in16 : ∀ w ∈ am_big_16, w ∈ lw_tbl := List.forall_mem_cons.mpr ⟨List.mem_of_getElem? (i := 775) rfl, List.forall_mem_cons.mpr ⟨List.mem_of_getElem? (i := 776) rfl, List.forall_mem_cons.mpr ⟨List.mem_of_getElem? (i := 777) rfl, List.forall_mem_cons.mpr ⟨List.mem_of_getElem? (i := 778) rfl, List.forall_mem_cons.mpr ⟨List.mem_of_getElem? (i := 779) rfl, List.forall_mem_cons.mpr ⟨List.mem_of_getElem? (i := 780) rfl, List.forall_mem_cons.mpr ⟨List.mem_of_getElem? (i := 781) rfl, List.forall_mem_cons.mpr ⟨List.mem_of_getElem? (i := 782) rfl, List.forall_mem_cons.mpr ⟨List.mem_of_getElem? (i := 783) rfl, List.forall_mem_cons.mpr ⟨List.mem_of_getElem? (i := 784) rfl, List.forall_mem_cons.mpr ⟨List.mem_of_getElem? (i := 785) rfl, List.forall_mem_cons.mpr ⟨List.mem_of_getElem? (i := 786) rfl, List.forall_mem_cons.mpr ⟨List.mem_of_getElem? (i := 787) rfl, List.forall_mem_cons.mpr ⟨List.mem_of_getElem? (i := 788) rfl, List.forall_mem_cons.mpr ⟨List.mem_of_getElem? (i := 789) rfl, List.forall_mem_cons.mpr ⟨List.mem_of_getElem? (i := 790) rfl, List.forall_mem_cons.mpr ⟨List.mem_of_getElem? (i := 791) rfl, List.forall_mem_cons.mpr ⟨List.mem_of_getElem? (i := 792) rfl, List.forall_mem_cons.mpr ⟨List.mem_of_getElem? (i := 793) rfl, List.forall_mem_cons.mpr ⟨List.mem_of_getElem? (i := 794) rfl, List.forall_mem_cons.mpr ⟨List.mem_of_getElem? (i := 795) rfl, List.forall_mem_cons.mpr ⟨List.mem_of_getElem? (i := 796) rfl, List.forall_mem_cons.mpr ⟨List.mem_of_getElem? (i := 797) rfl, List.forall_mem_cons.mpr ⟨List.mem_of_getElem? (i := 798) rfl, List.forall_mem_cons.mpr ⟨List.mem_of_getElem? (i := 799) rfl, List.forall_mem_cons.mpr ⟨List.mem_of_getElem? (i := 800) rfl, List.forall_mem_cons.mpr ⟨List.mem_of_getElem? (i := 801) rfl, List.forall_mem_cons.mpr ⟨List.mem_of_getElem? (i := 802) rfl, List.forall_mem_cons.mpr ⟨List.mem_of_getElem? (i := 803) rfl, List.forall_mem_cons.mpr ⟨List.mem_of_getElem? (i := 804) rfl, List.forall_mem_cons.mpr ⟨List.mem_of_getElem? (i := 805) rfl, List.forall_mem_cons.mpr ⟨List.mem_of_getElem? (i := 807) rfl, List.forall_mem_cons.mpr ⟨List.mem_of_getElem? (i := 809) rfl, List.forall_mem_cons.mpr ⟨List.mem_of_getElem? (i := 811) rfl, List.forall_mem_cons.mpr ⟨List.mem_of_getElem? (i := 813) rfl, List.forall_mem_cons.mpr ⟨List.mem_of_getElem? (i := 815) rfl, List.forall_mem_cons.mpr ⟨List.mem_of_getElem? (i := 817) rfl, List.forall_mem_cons.mpr ⟨List.mem_of_getElem? (i := 819) rfl, List.forall_mem_cons.mpr ⟨List.mem_of_getElem? (i := 821) rfl, List.forall_mem_cons.mpr ⟨List.mem_of_getElem? (i := 823) rfl, fun _ h => absurd h List.not_mem_nil⟩⟩⟩⟩⟩⟩⟩⟩⟩⟩⟩⟩⟩⟩⟩⟩⟩⟩⟩⟩⟩⟩⟩⟩⟩⟩⟩⟩⟩⟩⟩⟩⟩⟩⟩⟩⟩⟩⟩⟩
set_option maxRecDepth 100000 in
theorem am_big_in17 : ∀ w ∈ am_big_17, w ∈ lw_tbl := List.forall_mem_cons.mpr ⟨List.mem_of_getElem? (i := 825) rfl, List.forall_mem_cons.mpr ⟨List.mem_of_getElem? (i := 827) rfl, List.forall_mem_cons.mpr ⟨List.mem_of_getElem? (i := 829) rfl, List.forall_mem_cons.mpr ⟨List.mem_of_getElem? (i := 831) rfl, List.forall_mem_cons.mpr ⟨List.mem_of_getElem? (i := 833) rfl, List.forall_mem_cons.mpr ⟨List.mem_of_getElem? (i := 835) rfl, List.forall_mem_cons.mpr ⟨List.mem_of_getElem? (i := 837) rfl, List.forall_mem_cons.mpr ⟨List.mem_of_getElem? (i := 839) rfl, List.forall_mem_cons.mpr ⟨List.mem_of_getElem? (i := 841) rfl, List.forall_mem_cons.mpr ⟨List.mem_of_getElem? (i := 843) rfl, List.forall_mem_cons.mpr ⟨List.mem_of_getElem? (i := 845) rfl, List.forall_mem_cons.mpr ⟨List.mem_of_getElem? (i := 847) rfl, List.forall_mem_cons.mpr ⟨List.mem_of_getElem? (i := 849) rfl, List.forall_mem_cons.mpr ⟨List.mem_of_getElem? (i := 851) rfl, List.forall_mem_cons.mpr ⟨List.mem_of_getElem? (i := 853) rfl, List.forall_mem_cons.mpr ⟨List.mem_of_getElem? (i := 855) rfl, List.forall_mem_cons.mpr ⟨List.mem_of_getElem? (i := 857) rfl, List.forall_mem_cons.mpr ⟨List.mem_of_getElem? (i := 859) rfl, List.forall_mem_cons.mpr ⟨List.mem_of_getElem? (i := 861) rfl, List.forall_mem_cons.mpr ⟨List.mem_of_getElem? (i := 863) rfl, List.forall_mem_cons.mpr ⟨List.mem_of_getElem? (i := 864) rfl, List.forall_mem_cons.mpr ⟨List.mem_of_getElem? (i := 865) rfl, List.forall_mem_cons.mpr ⟨List.mem_of_getElem? (i := 866) rfl, List.forall_mem_cons.mpr ⟨List.mem_of_getElem? (i := 867) rfl, List.forall_mem_cons.mpr ⟨List.mem_of_getElem? (i := 868) rfl, List.forall_mem_cons.mpr ⟨List.mem_of_getElem? (i := 869) rfl, List.forall_mem_cons.mpr ⟨List.mem_of_getElem? (i := 870) rfl, List.forall_mem_cons.mpr ⟨List.mem_of_getElem? (i := 871) rfl, List.forall_mem_cons.mpr ⟨List.mem_of_getElem? (i := 872) rfl, List.forall_mem_cons.mpr ⟨List.mem_of_getElem? (i := 874) rfl, List.forall_mem_cons.mpr ⟨List.mem_of_getElem? (i := 875) rfl, List.forall_mem_cons.mpr ⟨List.mem_of_getElem? (i := 876) rfl, List.forall_mem_cons.mpr ⟨List.mem_of_getElem? (i := 877) rfl, List.forall_mem_cons.mpr ⟨List.mem_of_getElem? (i := 878) rfl, List.forall_mem_cons.mpr ⟨List.mem_of_getElem? (i := 879) rfl, List.forall_mem_cons.mpr ⟨List.mem_of_getElem? (i := 880) rfl, List.forall_mem_cons.mpr ⟨List.mem_of_getElem? (i := 881) rfl, List.forall_mem_cons.mpr ⟨List.mem_of_getElem? (i := 882) rfl, List.forall_mem_cons.mpr ⟨List.mem_of_getElem? (i := 883) rfl, List.forall_mem_cons.mpr ⟨List.mem_of_getElem? (i := 884) rfl, fun _ h => absurd h List.not_mem_nil⟩⟩⟩⟩⟩⟩⟩⟩⟩⟩⟩⟩⟩⟩⟩⟩⟩⟩⟩⟩⟩⟩⟩⟩⟩⟩⟩⟩⟩⟩⟩⟩⟩⟩⟩⟩⟩⟩⟩⟩
set_option maxRecDepth 100000 in
theorem am_big_in18 : ∀ w ∈ am_big_18, w ∈ lw_tbl := List.forall_mem_cons.mpr ⟨List.mem_of_getElem? (i := 885) rfl, List.forall_mem_cons.mpr ⟨List.mem_of_getElem? (i := 886) rfl, List.forall_mem_cons.mpr ⟨List.mem_of_getElem? (i := 887) rfl, List.forall_mem_cons.mpr ⟨List.mem_of_getElem? (i := 888) rfl, List.forall_mem_cons.mpr ⟨List.mem_of_getElem? (i := 889) rfl, List.forall_mem_cons.mpr ⟨List.mem_of_getElem? (i := 890) rfl, List.forall_mem_cons.mpr ⟨List.mem_of_getElem? (i := 892) rfl, List.forall_mem_cons.mpr ⟨List.mem_of_getElem? (i := 893) rfl, List.forall_mem_cons.mpr ⟨List.mem_of_getElem? (i := 894) rfl, List.forall_mem_cons.mpr ⟨List.mem_of_getElem? (i := 896) rfl, List.forall_mem_cons.mpr ⟨List.mem_of_getElem? (i := 897) rfl, List.forall_mem_cons.mpr ⟨List.mem_of_getElem? (i := 898) rfl, List.forall_mem_cons.mpr ⟨List.mem_of_getElem? (i := 899) rfl, List.forall_mem_cons.mpr ⟨List.mem_of_getElem? (i := 900) rfl, List.forall_mem_cons.mpr ⟨List.mem_of_getElem? (i := 901) rfl, List.forall_mem_cons.mpr ⟨List.mem_of_getElem? (i := 902) rfl, List.forall_mem_cons.mpr ⟨List.mem_of_getElem? (i := 903) rfl, List.forall_mem_cons.mpr ⟨List.mem_of_getElem? (i := 904) rfl, List.forall_mem_cons.mpr ⟨List.mem_of_getElem? (i := 905) rfl, List.forall_mem_cons.mpr ⟨List.mem_of_getElem? (i := 906) rfl, List.forall_mem_cons.mpr ⟨List.mem_of_getElem? (i := 907) rfl, List.forall_mem_cons.mpr ⟨List.mem_of_getElem? (i := 908) rfl, List.forall_mem_cons.mpr ⟨List.mem_of_getElem? (i := 909) rfl, List.forall_mem_cons.mpr ⟨List.mem_of_getElem? (i := 910) rfl, List.forall_mem_cons.mpr ⟨List.mem_of_getElem? (i := 911) rfl, List.forall_mem_cons.mpr ⟨List.mem_of_getElem? (i := 912) rfl, List.forall_mem_cons.mpr ⟨List.mem_of_getElem? (i := 913) rfl, List.forall_mem_cons.mpr ⟨List.mem_of_getElem? (i := 914) rfl, List.forall_mem_cons.mpr ⟨List.mem_of_getElem? (i := 915) rfl, List.forall_mem_cons.mpr ⟨List.mem_of_getElem? (i := 916) rfl, List.forall_mem_cons.mpr ⟨List.mem_of_getElem? (i := 917) rfl, List.forall_mem_cons.mpr ⟨List.mem_of_getElem? (i := 918) rfl, List.forall_mem_cons.mpr ⟨List.mem_of_getElem? (i := 919) rfl, List.forall_mem_cons.mpr ⟨List.mem_of_getElem? (i := 920) rfl, List.forall_mem_cons.mpr ⟨List.mem_of_getElem? (i := 922) rfl, List.forall_mem_cons.mpr ⟨List.mem_of_getElem? (i := 923) rfl, List.forall_mem_cons.mpr ⟨List.mem_of_getElem? (i := 924) rfl, List.forall_mem_cons.mpr ⟨List.mem_of_getElem? (i := 926) rfl, List.forall_mem_cons.mpr ⟨List.mem_of_getElem? (i := 927) rfl, List.forall_mem_cons.mpr ⟨List.mem_of_getElem? (i := 928) rfl, fun _ h => absurd h List.not_mem_nil⟩⟩⟩⟩⟩⟩⟩⟩⟩⟩⟩⟩⟩⟩⟩⟩⟩⟩⟩⟩⟩⟩⟩⟩⟩⟩⟩⟩⟩⟩⟩⟩⟩⟩⟩⟩⟩⟩⟩⟩
set_option maxRecDepth 100000 in
theorem am_big_in19 : ∀ w ∈ am_big_19, w ∈ lw_tbl := List.forall_mem_cons.mpr ⟨List.mem_of_getElem? (i := 930) rfl, List.forall_mem_cons.mpr ⟨List.mem_of_getElem? (i := 931) rfl, List.forall_mem_cons.mpr ⟨List.mem_of_getElem? (i := 932) rfl, List.forall_mem_cons.mpr ⟨List.mem_of_getElem? (i := 933) rfl, List.forall_mem_cons.mpr ⟨List.mem_of_getElem? (i := 934) rfl, List.forall_mem_cons.mpr ⟨List.mem_of_getElem? (i := 935) rfl, List.forall_mem_cons.mpr ⟨List.mem_of_getElem? (i := 936) rfl, List.forall_mem_cons.mpr ⟨List.mem_of_getElem? (i := 938) rfl, List.forall_mem_cons.mpr ⟨List.mem_of_getElem? (i := 939) rfl, List.forall_mem_cons.mpr ⟨List.mem_of_getElem? (i := 940) rfl, List.forall_mem_cons.mpr ⟨List.mem_of_getElem? (i := 941) rfl, List.forall_mem_cons.mpr ⟨List.mem_of_getElem? (i := 942) rfl, List.forall_mem_cons.mpr ⟨List.mem_of_getElem? (i := 943) rfl, List.forall_mem_cons.mpr ⟨List.mem_of_getElem? (i := 944) rfl, List.forall_mem_cons.mpr ⟨List.mem_of_getElem? (i := 946) rfl, List.forall_mem_cons.mpr ⟨List.mem_of_getElem? (i := 947) rfl, List.forall_mem_cons.mpr ⟨List.mem_of_getElem? (i := 948) rfl, List.forall_mem_cons.mpr ⟨List.mem_of_getElem? (i := 949) rfl, List.forall_mem_cons.mpr ⟨List.mem_of_getElem? (i := 950) rfl, List.forall_mem_cons.mpr ⟨List.mem_of_getElem? (i := 951) rfl, List.forall_mem_cons.mpr ⟨List.mem_of_getElem? (i := 952) rfl, List.forall_mem_cons.mpr ⟨List.mem_of_getElem? (i := 953) rfl, List.forall_mem_cons.mpr ⟨List.mem_of_getElem? (i := 954) rfl, List.forall_mem_cons.mpr ⟨List.mem_of_getElem? (i := 955) rfl, List.forall_mem_cons.mpr ⟨List.mem_of_getElem? (i := 956) rfl, List.forall_mem_cons.mpr ⟨List.mem_of_getElem? (i := 957) rfl, List.forall_mem_cons.mpr ⟨List.mem_of_getElem? (i := 958) rfl, List.forall_mem_cons.mpr ⟨List.mem_of_getElem? (i := 959) rfl, List.forall_mem_cons.mpr ⟨List.mem_of_getElem? (i := 960) rfl, List.forall_mem_cons.mpr ⟨List.mem_of_getElem? (i := 961) rfl, List.forall_mem_cons.mpr ⟨List.mem_of_getElem? (i := 962) rfl, List.forall_mem_cons.mpr ⟨List.mem_of_getElem? (i := 963) rfl, List.forall_mem_cons.mpr ⟨List.mem_of_getElem? (i := 964) rfl, List.forall_mem_cons.mpr ⟨List.mem_of_getElem? (i := 965) rfl, List.forall_mem_cons.mpr ⟨List.mem_of_getElem? (i := 966) rfl, List.forall_mem_cons.mpr ⟨List.mem_of_getElem? (i := 967) rfl, List.forall_mem_cons.mpr ⟨List.mem_of_getElem? (i := 968) rfl, List.forall_mem_cons.mpr ⟨List.mem_of_getElem? (i := 969) rfl, List.forall_mem_cons.mpr ⟨List.mem_of_getElem? (i := 970) rfl, List.forall_mem_cons.mpr ⟨List.mem_of_getElem? (i := 971) rfl, fun _ h => absurd h List.not_mem_nil⟩⟩⟩⟩⟩⟩⟩⟩⟩⟩⟩⟩⟩⟩⟩⟩⟩⟩⟩⟩⟩⟩⟩⟩⟩⟩⟩⟩⟩⟩⟩⟩⟩⟩⟩⟩⟩⟩⟩⟩
set_option maxRecDepth 100000 in
theorem am_big_in20 : ∀ w ∈ am_big_20, w ∈ lw_tbl := List.forall_mem_cons.mpr ⟨List.mem_of_getElem? (i := 972) rfl, List.forall_mem_cons.mpr ⟨List.mem_of_getElem? (i := 973) rfl, List.forall_mem_cons.mpr ⟨List.mem_of_getElem? (i := 974) rfl, List.forall_mem_cons.mpr ⟨List.mem_of_getElem? (i := 975) rfl, List.forall_mem_cons.mpr ⟨List.mem_of_getElem? (i := 976) rfl, List.forall_mem_cons.mpr ⟨List.mem_of_getElem? (i := 977) rfl, List.forall_mem_cons.mpr ⟨List.mem_of_getElem? (i := 978) rfl, List.forall_mem_cons.mpr ⟨List.mem_of_getElem? (i := 979) rfl, List.forall_mem_cons.mpr ⟨List.mem_of_getElem? (i := 980) rfl, List.forall_mem_cons.mpr ⟨List.mem_of_getElem? (i := 981) rfl, List.forall_mem_cons.mpr ⟨List.mem_of_getElem? (i := 982) rfl, List.forall_mem_cons.mpr ⟨List.mem_of_getElem? (i := 983) rfl, List.forall_mem_cons.mpr ⟨List.mem_of_getElem? (i := 984) rfl, List.forall_mem_cons.mpr ⟨List.mem_of_getElem? (i := 985) rfl, List.forall_mem_cons.mpr ⟨List.mem_of_getElem? (i := 987) rfl, List.forall_mem_cons.mpr ⟨List.mem_of_getElem? (i := 988) rfl, List.forall_mem_cons.mpr ⟨List.mem_of_getElem? (i := 989) rfl, List.forall_mem_cons.mpr ⟨List.mem_of_getElem? (i := 990) rfl, List.forall_mem_cons.mpr ⟨List.mem_of_getElem? (i := 991) rfl, List.forall_mem_cons.mpr ⟨List.mem_of_getElem? (i := 992) rfl, List.forall_mem_cons.mpr ⟨List.mem_of_getElem? (i := 993) rfl, List.forall_mem_cons.mpr ⟨List.mem_of_getElem? (i := 994) rfl, List.forall_mem_cons.mpr ⟨List.mem_of_getElem? (i := 995) rfl, List.forall_mem_cons.mpr ⟨List.mem_of_getElem? (i := 996) rfl, List.forall_mem_cons.mpr ⟨List.mem_of_getElem? (i := 997) rfl, List.forall_mem_cons.mpr ⟨List.mem_of_getElem? (i := 998) rfl, List.forall_mem_cons.mpr ⟨List.mem_of_getElem? (i := 999) rfl, List.forall_mem_cons.mpr ⟨List.mem_of_getElem? (i := 1000) rfl, List.forall_mem_cons.mpr ⟨List.mem_of_getElem? (i := 1001) rfl, List.forall_mem_cons.mpr ⟨List.mem_of_getElem? (i := 1003) rfl, List.forall_mem_cons.mpr ⟨List.mem_of_getElem? (i := 1004) rfl, List.forall_mem_cons.mpr ⟨List.mem_of_getElem? (i := 1005) rfl, List.forall_mem_cons.mpr ⟨List.mem_of_getElem? (i := 1007) rfl, List.forall_mem_cons.mpr ⟨List.mem_of_getElem? (i := 1008) rfl, List.forall_mem_cons.mpr ⟨List.mem_of_getElem? (i := 1009) rfl, List.forall_mem_cons.mpr ⟨List.mem_of_getElem? (i := 1011) rfl, List.forall_mem_cons.mpr ⟨List.mem_of_getElem? (i := 1012) rfl, List.forall_mem_cons.mpr ⟨List.mem_of_getElem? (i := 1014) rfl, List.forall_mem_cons.mpr ⟨List.mem_of_getElem? (i := 1016) rfl, List.forall_mem_cons.mpr ⟨List.mem_of_getElem? (i := 1017) rfl, fun _ h => absurd h List.not_mem_nil⟩⟩⟩⟩⟩⟩⟩⟩⟩⟩⟩⟩⟩⟩⟩⟩⟩⟩⟩⟩⟩⟩⟩⟩⟩⟩⟩⟩⟩⟩⟩⟩⟩⟩⟩⟩⟩⟩⟩⟩
set_option maxRecDepth 100000 in
theorem am_big_in21 : ∀ w ∈ am_big_21, w ∈ lw_tbl := List.forall_mem_cons.mpr ⟨List.mem_of_getElem? (i := 1018) rfl, List.forall_mem_cons.mpr ⟨List.mem_of_getElem? (i := 1020) rfl, List.forall_mem_cons.mpr ⟨List.mem_of_getElem? (i := 1021) rfl, List.forall_mem_cons.mpr ⟨List.mem_of_getElem? (i := 1022) rfl, List.forall_mem_cons.mpr ⟨List.mem_of_getElem? (i := 1024) rfl, List.forall_mem_cons.mpr ⟨List.mem_of_getElem? (i := 1025) rfl, List.forall_mem_cons.mpr ⟨List.mem_of_getElem? (i := 1026) rfl, List.forall_mem_cons.mpr ⟨List.mem_of_getElem? (i := 1028) rfl, List.forall_mem_cons.mpr ⟨List.mem_of_getElem? (i := 1029) rfl, List.forall_mem_cons.mpr ⟨List.mem_of_getElem? (i := 1030) rfl, List.forall_mem_cons.mpr ⟨List.mem_of_getElem? (i := 1031) rfl, List.forall_mem_cons.mpr ⟨List.mem_of_getElem? (i := 1033) rfl, List.forall_mem_cons.mpr ⟨List.mem_of_getElem? (i := 1034) rfl, List.forall_mem_cons.mpr ⟨List.mem_of_getElem? (i := 1035) rfl, List.forall_mem_cons.mpr ⟨List.mem_of_getElem? (i := 1036) rfl, List.forall_mem_cons.mpr ⟨List.mem_of_getElem? (i := 1037) rfl, List.forall_mem_cons.mpr ⟨List.mem_of_getElem? (i := 1038) rfl, List.forall_mem_cons.mpr ⟨List.mem_of_getElem? (i := 1039) rfl, List.forall_mem_cons.mpr ⟨List.mem_of_getElem? (i := 1041) rfl, List.forall_mem_cons.mpr ⟨List.mem_of_getElem? (i := 1042) rfl, List.forall_mem_cons.mpr ⟨List.mem_of_getElem? (i := 1043) rfl, List.forall_mem_cons.mpr ⟨List.mem_of_getElem? (i := 1045) rfl, List.forall_mem_cons.mpr ⟨List.mem_of_getElem? (i := 1046) rfl, List.forall_mem_cons.mpr ⟨List.mem_of_getElem? (i := 1047) rfl, List.forall_mem_cons.mpr ⟨List.mem_of_getElem? (i := 1049) rfl, List.forall_mem_cons.mpr ⟨List.mem_of_getElem? (i := 1050) rfl, List.forall_mem_cons.mpr ⟨List.mem_of_getElem? (i := 1051) rfl, List.forall_mem_cons.mpr ⟨List.mem_of_getElem? (i := 1052) rfl, List.forall_mem_cons.mpr ⟨List.mem_of_getElem? (i := 1053) rfl, List.forall_mem_cons.mpr ⟨List.mem_of_getElem? (i := 1054) rfl, List.forall_mem_cons.mpr ⟨List.mem_of_getElem? (i := 1055) rfl, List.forall_mem_cons.mpr ⟨List.mem_of_getElem? (i := 1056) rfl, List.forall_mem_cons.mpr ⟨List.mem_of_getElem? (i := 1057) rfl, List.forall_mem_cons.mpr ⟨List.mem_of_getElem? (i := 1058) rfl, List.forall_mem_cons.mpr ⟨List.mem_of_getElem? (i := 1059) rfl, List.forall_mem_cons.mpr ⟨List.mem_of_getElem? (i := 1061) rfl, List.forall_mem_cons.mpr ⟨List.mem_of_getElem? (i := 1062) rfl, List.forall_mem_cons.mpr ⟨List.mem_of_getElem? (i := 1063) rfl, List.forall_mem_cons.mpr ⟨List.mem_of_getElem? (i := 1064) rfl, List.forall_mem_cons.mpr ⟨List.mem_of_getElem? (i := 1065) rfl, fun _ h => absurd h List.not_mem_nil⟩⟩⟩⟩⟩⟩⟩⟩⟩⟩⟩⟩⟩⟩⟩⟩⟩⟩⟩⟩⟩⟩⟩⟩⟩⟩⟩⟩⟩⟩⟩⟩⟩⟩⟩⟩⟩⟩⟩⟩
set_option maxRecDepth 100000 in
theorem am_big_in22 : ∀ w ∈ am_big_22, w ∈ lw_tbl := List.forall_mem_cons.mpr ⟨List.mem_of_getElem? (i := 1066) rfl, List.forall_mem_cons.mpr ⟨List.mem_of_getElem? (i := 1067) rfl, List.forall_mem_cons.mpr ⟨List.mem_of_getElem? (i := 1068) rfl, List.forall_mem_cons.mpr ⟨List.mem_of_getElem? (i := 1069) rfl, List.forall_mem_cons.mpr ⟨List.mem_of_getElem? (i := 1070) rfl, List.forall_mem_cons.mpr ⟨List.mem_of_getElem? (i := 1071) rfl, List.forall_mem_cons.mpr ⟨List.mem_of_getElem? (i := 1072) rfl, List.forall_mem_cons.mpr ⟨List.mem_of_getElem? (i := 1073) rfl, List.forall_mem_cons.mpr ⟨List.mem_of_getElem? (i := 1074) rfl, List.forall_mem_cons.mpr ⟨List.mem_of_getElem? (i := 1075) rfl, List.forall_mem_cons.mpr ⟨List.mem_of_getElem? (i := 1076) rfl, List.forall_mem_cons.mpr ⟨List.mem_of_getElem? (i := 1077) rfl, List.forall_mem_cons.mpr ⟨List.mem_of_getElem? (i := 1078) rfl, List.forall_mem_cons.mpr ⟨List.mem_of_getElem? (i := 1079) rfl, List.forall_mem_cons.mpr ⟨List.mem_of_getElem? (i := 1080) rfl, List.forall_mem_cons.mpr ⟨List.mem_of_getElem? (i := 1081) rfl, List.forall_mem_cons.mpr ⟨List.mem_of_getElem? (i := 1082) rfl, List.forall_mem_cons.mpr ⟨List.mem_of_getElem? (i := 1083) rfl, List.forall_mem_cons.mpr ⟨List.mem_of_getElem? (i := 1086) rfl, List.forall_mem_cons.mpr ⟨List.mem_of_getElem? (i := 1087) rfl, List.forall_mem_cons.mpr ⟨List.mem_of_getElem? (i := 1088) rfl, List.forall_mem_cons.mpr ⟨List.mem_of_getElem? (i := 0) rfl, List.forall_mem_cons.mpr ⟨List.mem_of_getElem? (i := 1) rfl, List.forall_mem_cons.mpr ⟨List.mem_of_getElem? (i := 3) rfl, List.forall_mem_cons.mpr ⟨List.mem_of_getElem? (i := 4) rfl, List.forall_mem_cons.mpr ⟨List.mem_of_getElem? (i := 5) rfl, List.forall_mem_cons.mpr ⟨List.mem_of_getElem? (i := 6) rfl, List.forall_mem_cons.mpr ⟨List.mem_of_getElem? (i := 7) rfl, List.forall_mem_cons.mpr ⟨List.mem_of_getElem? (i := 8) rfl, List.forall_mem_cons.mpr ⟨List.mem_of_getElem? (i := 9) rfl, List.forall_mem_cons.mpr ⟨List.mem_of_getElem? (i := 10) rfl, List.forall_mem_cons.mpr ⟨List.mem_of_getElem? (i := 11) rfl, List.forall_mem_cons.mpr ⟨List.mem_of_getElem? (i := 12) rfl, List.forall_mem_cons.mpr ⟨List.mem_of_getElem? (i := 13) rfl, List.forall_mem_cons.mpr ⟨List.mem_of_getElem? (i := 14) rfl, List.forall_mem_cons.mpr ⟨List.mem_of_getElem? (i := 15) rfl, List.forall_mem_cons.mpr ⟨List.mem_of_getElem? (i := 16) rfl, List.forall_mem_cons.mpr ⟨List.mem_of_getElem? (i := 17) rfl, List.forall_mem_cons.mpr ⟨List.mem_of_getElem? (i := 18) rfl, List.forall_mem_cons.mpr ⟨List.mem_of_getElem? (i := 19) rfl, fun _ h => absurd h List.not_mem_nil⟩⟩⟩⟩⟩⟩⟩⟩⟩⟩⟩⟩⟩⟩⟩⟩⟩⟩⟩⟩⟩⟩⟩⟩⟩⟩⟩⟩⟩⟩⟩⟩⟩⟩⟩⟩⟩⟩⟩⟩
set_option maxRecDepth 100000 in
theorem am_big_in23 : ∀ w ∈ am_big_23, w ∈ lw_tbl := List.forall_mem_cons.mpr ⟨List.mem_of_getElem? (i := 20) rfl, List.forall_mem_cons.mpr ⟨List.mem_of_getElem? (i := 21) rfl, List.forall_mem_cons.mpr ⟨List.mem_of_getElem? (i := 22) rfl, List.forall_mem_cons.mpr ⟨List.mem_of_getElem? (i := 23) rfl, List.forall_mem_cons.mpr ⟨List.mem_of_getElem? (i := 24) rfl, List.forall_mem_cons.mpr ⟨List.mem_of_getElem? (i := 25) rfl, List.forall_mem_cons.mpr ⟨List.mem_of_getElem? (i := 26) rfl, List.forall_mem_cons.mpr ⟨List.mem_of_getElem? (i := 27) rfl, List.forall_mem_cons.mpr ⟨List.mem_of_getElem? (i := 28) rfl, List.forall_mem_cons.mpr ⟨List.mem_of_getElem? (i := 29) rfl, List.forall_mem_cons.mpr ⟨List.mem_of_getElem? (i := 30) rfl, List.forall_mem_cons.mpr ⟨List.mem_of_getElem? (i := 31) rfl, List.forall_mem_cons.mpr ⟨List.mem_of_getElem? (i := 32) rfl, List.forall_mem_cons.mpr ⟨List.mem_of_getElem? (i := 33) rfl, List.forall_mem_cons.mpr ⟨List.mem_of_getElem? (i := 407) rfl, List.forall_mem_cons.mpr ⟨List.mem_of_getElem? (i := 625) rfl, fun _ h => absurd h List.not_mem_nil⟩⟩⟩⟩⟩⟩⟩⟩⟩⟩⟩⟩⟩⟩⟩⟩
theorem am_in_app {a b : List Jvm.Cond} (ha : ∀ w ∈ a, w ∈ lw_tbl) (hb : ∀ w ∈ b, w ∈ lw_tbl) : ∀ w ∈ a ++ b, w ∈ lw_tbl := fun w h => (List.mem_append.mp h).elim (ha w) (hb w)
theorem am_big_in : ∀ w ∈ am_big, w ∈ lw_tbl := (am_in_app am_big_in0 (am_in_app am_big_in1 (am_in_app am_big_in2 (am_in_app am_big_in3 (am_in_app am_big_in4 (am_in_app am_big_in5 (am_in_app am_big_in6 (am_in_app am_big_in7 (am_in_app am_big_in8 (am_in_app am_big_in9 (am_in_app am_big_in10 (am_in_app am_big_in11 (am_in_app am_big_in12 (am_in_app am_big_in13 (am_in_app am_big_in14 (am_in_app am_big_in15 (am_in_app am_big_in16 (am_in_app am_big_in17 (am_in_app am_big_in18 (am_in_app am_big_in19 (am_in_app am_big_in20 (am_in_app am_big_in21 (am_in_app am_big_in22 am_big_in23)))))))))))))))))))))))
set_option maxRecDepth 100000 in
theorem am_cl_ok0 : am_all2 (am_okCb am_big) am_cl [[166, 167, 168, 169, 170, 171, 172, 173, 174], [61, 62, 63, 64, 65, 66, 67, 68], [91, 92, 93, 94, 95, 96, 97], [114, 115, 116, 117, 118], [148, 149, 150, 151, 152, 153, 154, 155], [670, 671, 672, 673, 674, 675, 676, 677, 678, 679, 680, 681, 682, 683, 684, 685, 686, 687, 688, 689, 690, 691, 692, 693, 694, 695, 696, 697, 698]] = true := by decide +kernel
theorem am_cl_ok : ∀ q ∈ am_cl, am_okC am_big q := fun q hq => (am_all2_of am_cl_ok0 q hq).elim fun _ h => am_okC_of h
def m_MG_init : am_M := (⟨"TraceAligner$MarkingGraph", "<init>", "(LTraceAligner$Net;)V"⟩, prog_2_method_1_code, 2, none)
def m_MG_explore : am_M := (⟨"TraceAligner$MarkingGraph", "explore", "()V"⟩, prog_2_method_2_code, 2, none)
def m_MG_followAll : am_M := (⟨"TraceAligner$MarkingGraph", "followAll", "(I)Z"⟩, prog_2_method_3_code, 5, (some .boolean))
def m_MG_numberOf : am_M := (⟨"TraceAligner$MarkingGraph", "numberOf", "(I)I"⟩, prog_2_method_4_code, 3, (some .int))
def m_MG_follower : am_M := (⟨"TraceAligner$MarkingGraph", "follower", "(II)I"⟩, prog_2_method_6_code, 3, (some .int))
def m_MG_relax : am_M := (⟨"TraceAligner$MarkingGraph", "relax", "([I[I)V"⟩, prog_2_method_7_code, 4, none)
def m_MG_relaxOnce : am_M := (⟨"TraceAligner$MarkingGraph", "relaxOnce", "([I[I)Z"⟩, prog_2_method_8_code, 7, (some .boolean))
def m_NT_init : am_M := (⟨"TraceAligner$Net", "<init>", "()V"⟩, prog_3_method_1_code, 1, none)
def m_NT_appendPlace : am_M := (⟨"TraceAligner$Net", "appendPlace", "()I"⟩, prog_3_method_2_code, 1, (some .int))
def m_NT_appendTransition : am_M := (⟨"TraceAligner$Net", "appendTransition", "(I)I"⟩, prog_3_method_3_code, 2, (some .int))
def m_NT_codeOf : am_M := (⟨"TraceAligner$Net", "codeOf", "([I)I"⟩, prog_3_method_4_code, 4, (some .int))
def m_PF_init : am_M := (⟨"TraceAligner$PathFinder", "<init>", "(LTraceAligner$Net;LTraceAligner$MarkingGraph;[I)V"⟩, prog_4_method_1_code, 4, none)
def m_PF_stepsToLast : am_M := (⟨"TraceAligner$PathFinder", "stepsToLast", "(I)I"⟩, prog_4_method_2_code, 2, (some .int))
def m_PF_weighEnd : am_M := (⟨"TraceAligner$PathFinder", "weighEnd", "([I)V"⟩, prog_4_method_5_code, 2, none)
def m_TR_init : am_M := (⟨"TraceAligner$Trace", "<init>", "()V"⟩, prog_5_method_1_code, 1, none)
def m_TR_take : am_M := (⟨"TraceAligner$Trace", "take", "([III)V"⟩, prog_5_method_2_code, 4, none)
def m_TA_init : am_M := (⟨"TraceAligner", "<init>", "()V"⟩, prog_1_method_1_code, 2, none)
def m_TA_addPlace : am_M := (⟨"TraceAligner", "addPlace", "()I"⟩, prog_1_method_2_code, 1, (some .int))
def m_TA_addTransition : am_M := (⟨"TraceAligner", "addTransition", "(I)I"⟩, prog_1_method_3_code, 2, (some .int))
def m_TA_link : am_M := (⟨"TraceAligner", "link", "(IIZZ)Z"⟩, prog_1_method_4_code, 7, (some .boolean))
def m_TA_setTokens : am_M := (⟨"TraceAligner", "setTokens", "(IIZ)I"⟩, prog_1_method_5_code, 6, (some .int))
def m_TA_count : am_M := (⟨"TraceAligner", "count", "(I)I"⟩, prog_1_method_6_code, 2, (some .int))
def m_TA_label : am_M := (⟨"TraceAligner", "label", "(I)I"⟩, prog_1_method_7_code, 2, (some .int))
def m_TA_markings : am_M := (⟨"TraceAligner", "markings", "()I"⟩, prog_1_method_8_code, 1, (some .int))
def m_TA_tokens : am_M := (⟨"TraceAligner", "tokens", "(II)I"⟩, prog_1_method_9_code, 3, (some .int))
def m_TA_enabled : am_M := (⟨"TraceAligner", "enabled", "(I)I"⟩, prog_1_method_10_code, 2, (some .int))
def m_TA_next : am_M := (⟨"TraceAligner", "next", "(II)I"⟩, prog_1_method_11_code, 3, (some .int))
def m_TA_last : am_M := (⟨"TraceAligner", "last", "()I"⟩, prog_1_method_12_code, 1, (some .int))
def m_TA_dead : am_M := (⟨"TraceAligner", "dead", "()I"⟩, prog_1_method_13_code, 3, (some .int))
def m_TA_live : am_M := (⟨"TraceAligner", "live", "()I"⟩, prog_1_method_14_code, 3, (some .int))
def m_TA_away : am_M := (⟨"TraceAligner", "away", "(I)I"⟩, prog_1_method_15_code, 2, (some .int))
def m_TA_event : am_M := (⟨"TraceAligner", "event", "(I)I"⟩, prog_1_method_16_code, 2, (some .int))
def m_TA_store : am_M := (⟨"TraceAligner", "store", "(I)I"⟩, prog_1_method_17_code, 2, (some .int))
def m_TA_dropTrace : am_M := (⟨"TraceAligner", "dropTrace", "()I"⟩, prog_1_method_18_code, 1, (some .int))
def m_TA_length : am_M := (⟨"TraceAligner", "length", "(I)I"⟩, prog_1_method_19_code, 2, (some .int))
def m_TA_setLabelCost : am_M := (⟨"TraceAligner", "setLabelCost", "(II)I"⟩, prog_1_method_20_code, 4, (some .int))
def m_TA_setCost : am_M := (⟨"TraceAligner", "setCost", "(II)I"⟩, prog_1_method_21_code, 4, (some .int))
def m_TA_cost : am_M := (⟨"TraceAligner", "cost", "(I)I"⟩, prog_1_method_22_code, 2, (some .int))
def m_TA_moves : am_M := (⟨"TraceAligner", "moves", "(I)I"⟩, prog_1_method_23_code, 2, (some .int))
def m_TA_move : am_M := (⟨"TraceAligner", "move", "(III)I"⟩, prog_1_method_24_code, 6, (some .int))
def m_TA_worst : am_M := (⟨"TraceAligner", "worst", "(I)I"⟩, prog_1_method_25_code, 2, (some .int))
def m_TA_fitness : am_M := (⟨"TraceAligner", "fitness", "(I)D"⟩, prog_1_method_26_code, 3, (some .double))
def m_TA_total : am_M := (⟨"TraceAligner", "total", "(II)I"⟩, prog_1_method_27_code, 5, (some .int))
def m_TA_allFitness : am_M := (⟨"TraceAligner", "allFitness", "()D"⟩, prog_1_method_28_code, 4, (some .double))
def m_TA_precision : am_M := (⟨"TraceAligner", "precision", "()D"⟩, prog_1_method_29_code, 4, (some .double))
def m_TA_digest : am_M := (⟨"TraceAligner", "digest", "()J"⟩, prog_1_method_30_code, 4, (some .long))
def m_TA_digestOfNet : am_M := (⟨"TraceAligner", "digestOfNet", "(J)J"⟩, prog_1_method_31_code, 6, (some .long))
def m_TA_digestOfTraces : am_M := (⟨"TraceAligner", "digestOfTraces", "(J)J"⟩, prog_1_method_32_code, 8, (some .long))
def m_TA_forgetMarkings : am_M := (⟨"TraceAligner", "forgetMarkings", "()V"⟩, prog_1_method_33_code, 1, none)
def m_TA_forgetAlignments : am_M := (⟨"TraceAligner", "forgetAlignments", "()V"⟩, prog_1_method_34_code, 2, none)
def m_TA_isNoLabel : am_M := (⟨"TraceAligner", "isNoLabel", "(I)Z"⟩, prog_1_method_35_code, 1, (some .boolean))
def m_TA_requirePlace : am_M := (⟨"TraceAligner", "requirePlace", "(I)V"⟩, prog_1_method_36_code, 2, none)
def m_TA_requireTransition : am_M := (⟨"TraceAligner", "requireTransition", "(I)V"⟩, prog_1_method_37_code, 2, none)
def m_TA_requireMarkings : am_M := (⟨"TraceAligner", "requireMarkings", "()V"⟩, prog_1_method_38_code, 1, none)
def m_TA_requireMarking : am_M := (⟨"TraceAligner", "requireMarking", "(I)V"⟩, prog_1_method_39_code, 2, none)
def m_TA_requireTrace : am_M := (⟨"TraceAligner", "requireTrace", "(I)V"⟩, prog_1_method_40_code, 2, none)
def m_TA_requireCost : am_M := (⟨"TraceAligner", "requireCost", "(I)V"⟩, prog_1_method_41_code, 1, none)
def m_TA_alignedTrace : am_M := (⟨"TraceAligner", "alignedTrace", "(I)LTraceAligner$Trace;"⟩, prog_1_method_42_code, 2, (some (.object "TraceAligner$Trace")))
def m_TA_fitnessOf : am_M := (⟨"TraceAligner", "fitnessOf", "(II)D"⟩, prog_1_method_43_code, 2, (some .double))
def m_TA_collectFired : am_M := (⟨"TraceAligner", "collectFired", "()V"⟩, prog_1_method_44_code, 2, none)
def m_MO_init : am_M := (⟨"TraceAlignerModel", "<init>", "()V"⟩, prog_7_method_1_code, 1, none)
def m_MO_thrown : am_M := (⟨"TraceAlignerModel", "thrown", "()I"⟩, prog_7_method_2_code, 1, (some .int))
def m_MO_no : am_M := (⟨"TraceAlignerModel", "no", "(I)I"⟩, prog_7_method_3_code, 2, (some .int))
def m_MO_isIn : am_M := (⟨"TraceAlignerModel", "isIn", "(III)Z"⟩, prog_7_method_4_code, 3, (some .boolean))
def m_MO_isPlace : am_M := (⟨"TraceAlignerModel", "isPlace", "(I)Z"⟩, prog_7_method_6_code, 2, (some .boolean))
def m_MO_isTransition : am_M := (⟨"TraceAlignerModel", "isTransition", "(I)Z"⟩, prog_7_method_7_code, 2, (some .boolean))
def m_MO_isTrace : am_M := (⟨"TraceAlignerModel", "isTrace", "(I)Z"⟩, prog_7_method_8_code, 2, (some .boolean))
def m_MO_isLabel : am_M := (⟨"TraceAlignerModel", "isLabel", "(I)Z"⟩, prog_7_method_9_code, 1, (some .boolean))
def m_MO_addPlace : am_M := (⟨"TraceAlignerModel", "addPlace", "()I"⟩, prog_7_method_10_code, 1, (some .int))
def m_MO_addTransition : am_M := (⟨"TraceAlignerModel", "addTransition", "(I)I"⟩, prog_7_method_11_code, 2, (some .int))
def m_MO_link : am_M := (⟨"TraceAlignerModel", "link", "(IIZZ)Z"⟩, prog_7_method_12_code, 7, (some .boolean))
def m_MO_setTokens : am_M := (⟨"TraceAlignerModel", "setTokens", "(IIZ)I"⟩, prog_7_method_14_code, 6, (some .int))
def m_MO_count : am_M := (⟨"TraceAlignerModel", "count", "(I)I"⟩, prog_7_method_15_code, 2, (some .int))
def m_MO_label : am_M := (⟨"TraceAlignerModel", "label", "(I)I"⟩, prog_7_method_16_code, 2, (some .int))
def m_MO_numberOf : am_M := (⟨"TraceAlignerModel", "numberOf", "(I)I"⟩, prog_7_method_18_code, 3, (some .int))
def m_MO_look : am_M := (⟨"TraceAlignerModel", "look", "()V"⟩, prog_7_method_19_code, 5, none)
def m_MO_markings : am_M := (⟨"TraceAlignerModel", "markings", "()I"⟩, prog_7_method_20_code, 1, (some .int))
def m_MO_asks : am_M := (⟨"TraceAlignerModel", "asks", "(I)Z"⟩, prog_7_method_21_code, 2, (some .boolean))
def m_MO_tokens : am_M := (⟨"TraceAlignerModel", "tokens", "(II)I"⟩, prog_7_method_22_code, 3, (some .int))
def m_MO_enabledIn : am_M := (⟨"TraceAlignerModel", "enabledIn", "(I)I"⟩, prog_7_method_23_code, 4, (some .int))
def m_MO_enabled : am_M := (⟨"TraceAlignerModel", "enabled", "(I)I"⟩, prog_7_method_24_code, 2, (some .int))
def m_MO_next : am_M := (⟨"TraceAlignerModel", "next", "(II)I"⟩, prog_7_method_25_code, 3, (some .int))
def m_MO_last : am_M := (⟨"TraceAlignerModel", "last", "()I"⟩, prog_7_method_26_code, 1, (some .int))
def m_MO_dead : am_M := (⟨"TraceAlignerModel", "dead", "()I"⟩, prog_7_method_27_code, 3, (some .int))
def m_MO_live : am_M := (⟨"TraceAlignerModel", "live", "()I"⟩, prog_7_method_28_code, 3, (some .int))
def m_MO_away : am_M := (⟨"TraceAlignerModel", "away", "(I)I"⟩, prog_7_method_29_code, 8, (some .int))
def m_MO_event : am_M := (⟨"TraceAlignerModel", "event", "(I)I"⟩, prog_7_method_30_code, 2, (some .int))
def m_MO_store : am_M := (⟨"TraceAlignerModel", "store", "(I)I"⟩, prog_7_method_31_code, 3, (some .int))
def m_MO_dropTrace : am_M := (⟨"TraceAlignerModel", "dropTrace", "()I"⟩, prog_7_method_32_code, 1, (some .int))
def m_MO_length : am_M := (⟨"TraceAlignerModel", "length", "(I)I"⟩, prog_7_method_33_code, 2, (some .int))
def m_MO_setLabelCost : am_M := (⟨"TraceAlignerModel", "setLabelCost", "(II)I"⟩, prog_7_method_34_code, 4, (some .int))
def m_MO_setCost : am_M := (⟨"TraceAlignerModel", "setCost", "(II)I"⟩, prog_7_method_35_code, 4, (some .int))
def m_MO_asksTrace : am_M := (⟨"TraceAlignerModel", "asksTrace", "(I)Z"⟩, prog_7_method_45_code, 2, (some .boolean))
def m_MO_cost : am_M := (⟨"TraceAlignerModel", "cost", "(I)I"⟩, prog_7_method_48_code, 2, (some .int))
def m_MO_moves : am_M := (⟨"TraceAlignerModel", "moves", "(I)I"⟩, prog_7_method_49_code, 2, (some .int))
def m_MO_move : am_M := (⟨"TraceAlignerModel", "move", "(III)I"⟩, prog_7_method_50_code, 4, (some .int))
def m_MO_worst : am_M := (⟨"TraceAlignerModel", "worst", "(I)I"⟩, prog_7_method_51_code, 2, (some .int))
def m_MO_fitness : am_M := (⟨"TraceAlignerModel", "fitness", "(I)D"⟩, prog_7_method_52_code, 4, (some .double))
def m_MO_total : am_M := (⟨"TraceAlignerModel", "total", "(II)I"⟩, prog_7_method_53_code, 9, (some .int))
def m_MO_allFitness : am_M := (⟨"TraceAlignerModel", "allFitness", "()D"⟩, prog_7_method_54_code, 4, (some .double))
def m_MO_precision : am_M := (⟨"TraceAlignerModel", "precision", "()D"⟩, prog_7_method_55_code, 6, (some .double))
def m_MO_digest : am_M := (⟨"TraceAlignerModel", "digest", "()J"⟩, prog_7_method_56_code, 5, (some .long))
def m_IN_bitCount : am_M := (⟨"java/lang/Integer", "bitCount", "(I)I"⟩, prog_12_method_49_code, 1, (some .int))
def m_AR_fill : am_M := (⟨"java/util/Arrays", "fill", "([II)V"⟩, prog_18_method_103_code, 4, none)
def m_LW_addPlace : am_M := (⟨"TraceAlignerLaw", "addPlace", "(LTraceAligner;[J)I"⟩, method_3_code, 3, (some .int))
def m_LW_addTransition : am_M := (⟨"TraceAlignerLaw", "addTransition", "(LTraceAligner;I[J)I"⟩, method_4_code, 4, (some .int))
def m_LW_link : am_M := (⟨"TraceAlignerLaw", "link", "(LTraceAligner;IIZZ[J)I"⟩, method_5_code, 7, (some .int))
def m_LW_setTokens : am_M := (⟨"TraceAlignerLaw", "setTokens", "(LTraceAligner;IIZ[J)I"⟩, method_6_code, 6, (some .int))
def m_LW_count : am_M := (⟨"TraceAlignerLaw", "count", "(LTraceAligner;I[J)I"⟩, method_7_code, 4, (some .int))
def m_LW_label : am_M := (⟨"TraceAlignerLaw", "label", "(LTraceAligner;I[J)I"⟩, method_8_code, 4, (some .int))
def m_LW_tokens : am_M := (⟨"TraceAlignerLaw", "tokens", "(LTraceAligner;II[J)I"⟩, method_9_code, 5, (some .int))
def m_LW_enabled : am_M := (⟨"TraceAlignerLaw", "enabled", "(LTraceAligner;I[J)I"⟩, method_10_code, 4, (some .int))
def m_LW_next : am_M := (⟨"TraceAlignerLaw", "next", "(LTraceAligner;II[J)I"⟩, method_11_code, 5, (some .int))
def m_LW_last : am_M := (⟨"TraceAlignerLaw", "last", "(LTraceAligner;[J)I"⟩, method_12_code, 3, (some .int))
def m_LW_dead : am_M := (⟨"TraceAlignerLaw", "dead", "(LTraceAligner;[J)I"⟩, method_13_code, 3, (some .int))
def m_LW_live : am_M := (⟨"TraceAlignerLaw", "live", "(LTraceAligner;[J)I"⟩, method_14_code, 3, (some .int))
def m_LW_away : am_M := (⟨"TraceAlignerLaw", "away", "(LTraceAligner;I[J)I"⟩, method_15_code, 4, (some .int))
def m_LW_event : am_M := (⟨"TraceAlignerLaw", "event", "(LTraceAligner;I[J)I"⟩, method_16_code, 4, (some .int))
def m_LW_store : am_M := (⟨"TraceAlignerLaw", "store", "(LTraceAligner;I[J)I"⟩, method_17_code, 4, (some .int))
def m_LW_dropTrace : am_M := (⟨"TraceAlignerLaw", "dropTrace", "(LTraceAligner;[J)I"⟩, method_18_code, 3, (some .int))
def m_LW_length : am_M := (⟨"TraceAlignerLaw", "length", "(LTraceAligner;I[J)I"⟩, method_19_code, 4, (some .int))
def m_LW_setLabelCost : am_M := (⟨"TraceAlignerLaw", "setLabelCost", "(LTraceAligner;II[J)I"⟩, method_20_code, 5, (some .int))
def m_LW_setCost : am_M := (⟨"TraceAlignerLaw", "setCost", "(LTraceAligner;II[J)I"⟩, method_21_code, 5, (some .int))
def m_LW_cost : am_M := (⟨"TraceAlignerLaw", "cost", "(LTraceAligner;I[J)I"⟩, method_22_code, 4, (some .int))
def m_LW_moves : am_M := (⟨"TraceAlignerLaw", "moves", "(LTraceAligner;I[J)I"⟩, method_23_code, 4, (some .int))
def m_LW_move : am_M := (⟨"TraceAlignerLaw", "move", "(LTraceAligner;III[J)I"⟩, method_24_code, 6, (some .int))
def m_LW_worst : am_M := (⟨"TraceAlignerLaw", "worst", "(LTraceAligner;I[J)I"⟩, method_25_code, 4, (some .int))
def m_LW_fitness : am_M := (⟨"TraceAlignerLaw", "fitness", "(LTraceAligner;I[D)I"⟩, method_26_code, 4, (some .int))
def m_LW_total : am_M := (⟨"TraceAlignerLaw", "total", "(LTraceAligner;II[J)I"⟩, method_27_code, 5, (some .int))
def m_LW_allFitness : am_M := (⟨"TraceAlignerLaw", "allFitness", "(LTraceAligner;[D)I"⟩, method_28_code, 3, (some .int))
def m_LW_precision : am_M := (⟨"TraceAlignerLaw", "precision", "(LTraceAligner;[D)I"⟩, method_29_code, 3, (some .int))
def m_LW_law : am_M := (⟨"TraceAlignerLaw", "law", "([I)Z"⟩, code, maxLocals, ret)
def F_MG : List am_FR := [(9, 2, 1, 2, true), (15, 2, 2, 2, true), (18, 2, 3, 2, true), (21, 2, 0, 2, true), (25, 2, 4, 1, false), (29, 2, 6, 0, false), (33, 1, 6, 9, false), (42, 2, 5, 0, false), (49, 1, 7, 9, false), (56, 1, 1, 0, false)]
def N_MG : List am_NR := []
def C_MG_0 : List am_MR := [(38, 0, 1, 1, m_NT_codeOf), (45, 0, 2, 1, m_MG_followAll), (52, 0, 2, 1, m_MG_numberOf), (66, 0, 2, 2, m_MG_relaxOnce)]
set_option maxRecDepth 100000 in
theorem okM_MG_0 : am_all2 (am_okMb "TraceAligner$MarkingGraph" "TraceAligner" am_cl am_big) C_MG_0 [(187, 11, 184, 185, 186), (191, 12, 188, 189, 190), (207, 12, 204, 205, 206), (242, 12, 239, 240, 241)] = true := by decide +kernel
def C_MG : List am_MR := C_MG_0
set_option maxRecDepth 100000 in
theorem okF_MG : am_all2 (am_okFb "TraceAligner$MarkingGraph" am_cl am_big) F_MG [78, 80, 82, 77, 83, 88, 56, 85, 59, 42] = true := by decide +kernel
set_option maxRecDepth 100000 in
theorem okN_MG : am_all2 (am_okNb "TraceAligner$MarkingGraph" am_cl am_big) N_MG [] = true := by decide +kernel
theorem okT_MG : am_okT am_cl am_big "TraceAligner$MarkingGraph" (F_MG, N_MG, C_MG) := ⟨am_okF_of am_cl_ok okF_MG, am_okN_of am_cl_ok okN_MG, (am_okM_of "TraceAligner" okM_MG_0)⟩
def F_NT : List am_FR := [(9, 1, 2, 2, true), (15, 1, 3, 2, true), (18, 1, 4, 2, true), (21, 1, 5, 2, true), (24, 1, 6, 2, true), (27, 1, 7, 2, true), (30, 1, 0, 0, false), (34, 1, 1, 0, false)]
def N_NT : List am_NR := []
def C_NT_0 : List am_MR := []
set_option maxRecDepth 100000 in
theorem okM_NT_0 : am_all2 (am_okMb "TraceAligner$Net" "TraceAligner" am_cl am_big) C_NT_0 [] = true := by decide +kernel
def C_NT : List am_MR := C_NT_0
set_option maxRecDepth 100000 in
theorem okF_NT : am_all2 (am_okFb "TraceAligner$Net" am_cl am_big) F_NT [45, 48, 51, 53, 55, 58, 39, 41] = true := by decide +kernel
set_option maxRecDepth 100000 in
theorem okN_NT : am_all2 (am_okNb "TraceAligner$Net" am_cl am_big) N_NT [] = true := by decide +kernel
theorem okT_NT : am_okT am_cl am_big "TraceAligner$Net" (F_NT, N_NT, C_NT) := ⟨am_okF_of am_cl_ok okF_NT, am_okN_of am_cl_ok okN_NT, (am_okM_of "TraceAligner" okM_NT_0)⟩
def F_PF : List am_FR := [(9, 3, 3, 2, true), (17, 3, 4, 2, true), (20, 3, 0, 2, true), (24, 3, 1, 2, true), (28, 3, 2, 2, true), (42, 4, 3, 1, false), (48, 2, 6, 0, false), (61, 4, 4, 0, false), (64, 4, 6, 0, false), (67, 4, 1, 0, false), (70, 4, 5, 0, false), (73, 4, 0, 9, false), (83, 1, 1, 0, false), (88, 1, 3, 9, false), (99, 2, 5, 0, false), (113, 1, 2, 9, false), (121, 4, 7, 2, false)]
def N_PF : List am_NR := []
def C_PF_0 : List am_MR := [(31, 1, 0, 2, m_AR_fill), (37, 0, 3, 1, m_PF_weighEnd), (95, 0, 2, 2, m_MG_relax)]
set_option maxRecDepth 100000 in
theorem okM_PF_0 : am_all2 (am_okMb "TraceAligner$PathFinder" "TraceAligner" am_cl am_big) C_PF_0 [(101, 13, 234, 100, 0), (233, 14, 230, 231, 232), (238, 12, 235, 236, 237)] = true := by decide +kernel
def C_PF : List am_MR := C_PF_0
set_option maxRecDepth 100000 in
theorem okF_PF : am_all2 (am_okFb "TraceAligner$PathFinder" am_cl am_big) F_PF [112, 113, 109, 110, 111, 134, 89, 137, 142, 129, 139, 126, 44, 49, 86, 46, 146] = true := by decide +kernel
set_option maxRecDepth 100000 in
theorem okN_PF : am_all2 (am_okNb "TraceAligner$PathFinder" am_cl am_big) N_PF [] = true := by decide +kernel
theorem okT_PF : am_okT am_cl am_big "TraceAligner$PathFinder" (F_PF, N_PF, C_PF) := ⟨am_okF_of am_cl_ok okF_PF, am_okN_of am_cl_ok okN_PF, (am_okM_of "TraceAligner" okM_PF_0)⟩
def F_TR : List am_FR := [(9, 4, 0, 2, true), (15, 4, 7, 2, false), (24, 4, 1, 0, false), (28, 4, 2, 0, false), (31, 4, 3, 1, false), (35, 4, 4, 0, false), (38, 4, 5, 0, false), (41, 4, 6, 0, false)]
def N_TR : List am_NR := []
def C_TR_0 : List am_MR := []
set_option maxRecDepth 100000 in
theorem okM_TR_0 : am_all2 (am_okMb "TraceAligner$Trace" "TraceAligner" am_cl am_big) C_TR_0 [] = true := by decide +kernel
def C_TR : List am_MR := C_TR_0
set_option maxRecDepth 100000 in
theorem okF_TR : am_all2 (am_okFb "TraceAligner$Trace" am_cl am_big) F_TR [125, 145, 128, 131, 133, 136, 140, 143] = true := by decide +kernel
set_option maxRecDepth 100000 in
theorem okN_TR : am_all2 (am_okNb "TraceAligner$Trace" am_cl am_big) N_TR [] = true := by decide +kernel
theorem okT_TR : am_okT am_cl am_big "TraceAligner$Trace" (F_TR, N_TR, C_TR) := ⟨am_okF_of am_cl_ok okF_TR, am_okN_of am_cl_ok okN_TR, (am_okM_of "TraceAligner" okM_TR_0)⟩
def F_TA : List am_FR := [(10, 0, 0, 2, true), (21, 0, 1, 2, true), (25, 0, 3, 2, true), (40, 0, 2, 2, true), (44, 0, 4, 2, true), (49, 0, 6, 2, true), (54, 0, 8, 2, true), (57, 1, 0, 0, false), (84, 1, 1, 0, false), (100, 1, 4, 9, false), (103, 1, 5, 9, false), (112, 1, 7, 9, false), (115, 1, 6, 9, false), (118, 0, 7, 0, false), (126, 1, 2, 9, false), (132, 2, 5, 0, false), (141, 2, 1, 9, false), (148, 2, 2, 9, false), (154, 2, 6, 0, false), (162, 0, 5, 0, false), (180, 4, 1, 0, false), (189, 1, 3, 9, false), (196, 4, 4, 0, false), (199, 4, 6, 0, false), (204, 4, 7, 2, false), (221, 4, 5, 0, false), (240, 4, 2, 0, false), (264, 4, 0, 9, false), (265, 2, 4, 1, false), (269, 4, 3, 1, false)]
def N_TA : List am_NR := [(7, 1, [.int 0, .int 0, .null, .null, .null, .null, .null, .null]), (16, 2, [.null, .null, .null, .null, .int 0, .int 0, .int 0]), (35, 3, [.null, .null, .null, .null, .null]), (47, 4, [.null, .int 0, .int 0, .int 0, .int 0, .int 0, .int 0, .null])]
def C_TA_0 : List am_MR := [(9, 5, 1, 0, m_NT_init), (18, 2, 2, 1, m_MG_init), (29, 1, 0, 2, m_AR_fill), (37, 2, 3, 3, m_PF_init), (53, 5, 4, 0, m_TR_init), (68, 0, 0, 0, m_TA_forgetMarkings)]
set_option maxRecDepth 100000 in
theorem okM_TA_0 : am_all2 (am_okMb "TraceAligner" "TraceAligner" am_cl am_big) C_TA_0 [(37, 11, 0, 36, 0), (75, 12, 73, 74, 0), (101, 13, 99, 100, 0), (106, 14, 104, 105, 0), (123, 15, 0, 122, 0), (342, 10, 340, 341, 903)] = true := by decide +kernel
def C_TA_1 : List am_MR := [(71, 0, 1, 0, m_NT_appendPlace), (75, 1, 0, 1, m_TA_isNoLabel), (89, 0, 1, 1, m_NT_appendTransition), (93, 0, 0, 1, m_TA_requireTransition), (97, 0, 0, 1, m_TA_requirePlace), (129, 0, 2, 0, m_MG_explore)]
set_option maxRecDepth 100000 in
theorem okM_TA_1 : am_all2 (am_okMb "TraceAligner" "TraceAligner" am_cl am_big) C_TA_1 [(349, 11, 346, 347, 348), (360, 10, 358, 359, 0), (378, 11, 375, 376, 377), (389, 10, 387, 388, 905), (406, 10, 404, 405, 906), (183, 12, 180, 181, 182)] = true := by decide +kernel
def C_TA_2 : List am_MR := [(135, 0, 0, 0, m_TA_requireMarkings), (138, 0, 0, 1, m_TA_requireMarking), (151, 0, 2, 2, m_MG_follower), (157, 0, 3, 1, m_PF_stepsToLast), (171, 0, 4, 3, m_TR_take), (177, 0, 0, 1, m_TA_requireTrace)]
set_option maxRecDepth 100000 in
theorem okM_TA_2 : am_all2 (am_okMb "TraceAligner" "TraceAligner" am_cl am_big) C_TA_2 [(438, 10, 436, 437, 907), (441, 10, 439, 440, 908), (257, 12, 457, 255, 256), (489, 14, 486, 487, 488), (507, 15, 504, 505, 506), (526, 10, 524, 525, 909)] = true := by decide +kernel
def C_TA_3 : List am_MR := [(183, 1, 0, 1, m_TA_requireCost), (186, 0, 0, 0, m_TA_forgetAlignments), (192, 0, 0, 1, m_TA_alignedTrace), (228, 1, 0, 2, m_TA_fitnessOf), (246, 0, 0, 0, m_TA_collectFired), (255, 0, 0, 1, m_TA_digestOfNet)]
set_option maxRecDepth 100000 in
theorem okM_TA_3 : am_all2 (am_okMb "TraceAligner" "TraceAligner" am_cl am_big) C_TA_3 [(536, 10, 534, 535, 0), (345, 10, 343, 344, 904), (553, 10, 551, 552, 910), (596, 10, 594, 595, 0), (624, 10, 622, 623, 911), (214, 10, 212, 213, 901)] = true := by decide +kernel
def C_TA_4 : List am_MR := [(261, 0, 0, 1, m_TA_digestOfTraces)]
set_option maxRecDepth 100000 in
theorem okM_TA_4 : am_all2 (am_okMb "TraceAligner" "TraceAligner" am_cl am_big) C_TA_4 [(217, 10, 215, 216, 902)] = true := by decide +kernel
def C_TA : List am_MR := C_TA_0 ++ (C_TA_1 ++ (C_TA_2 ++ (C_TA_3 ++ (C_TA_4))))
set_option maxRecDepth 100000 in
theorem okF_TA : am_all2 (am_okFb "TraceAligner" am_cl am_big) F_TA [157, 158, 160, 159, 161, 163, 165, 40, 43, 52, 54, 60, 57, 164, 47, 87, 79, 81, 90, 162, 130, 50, 138, 144, 147, 141, 132, 127, 84, 135] = true := by decide +kernel
set_option maxRecDepth 100000 in
theorem okN_TA : am_all2 (am_okNb "TraceAligner" am_cl am_big) N_TA [(34, 35, 11), (71, 72, 12), (102, 103, 14), (120, 121, 15)] = true := by decide +kernel
theorem okT_TA : am_okT am_cl am_big "TraceAligner" (F_TA, N_TA, C_TA) := ⟨am_okF_of am_cl_ok okF_TA, am_okN_of am_cl_ok okN_TA, (am_okM_app (am_okM_of "TraceAligner" okM_TA_0) (am_okM_app (am_okM_of "TraceAligner" okM_TA_1) (am_okM_app (am_okM_of "TraceAligner" okM_TA_2) (am_okM_app (am_okM_of "TraceAligner" okM_TA_3) (am_okM_of "TraceAligner" okM_TA_4)))))⟩
def F_MO : List am_FR := [(11, 5, 3, 2, true), (15, 5, 4, 2, true), (18, 5, 5, 2, true), (21, 5, 6, 2, true), (24, 5, 9, 2, true), (27, 5, 11, 2, true), (30, 5, 13, 2, true), (33, 5, 14, 2, true), (36, 5, 15, 2, true), (39, 5, 19, 2, true), (42, 5, 20, 2, true), (45, 5, 21, 2, true), (48, 5, 25, 2, true), (51, 5, 26, 2, true), (54, 5, 27, 2, true), (57, 5, 0, 0, false), (61, 5, 1, 0, false), (68, 5, 2, 0, false), (71, 5, 12, 0, false), (78, 5, 16, 1, false), (96, 5, 8, 0, false), (99, 5, 7, 0, false), (106, 5, 18, 0, false), (109, 5, 17, 1, false), (127, 5, 10, 0, false), (133, 5, 22, 0, false), (136, 5, 23, 0, false), (162, 5, 28, 0, false), (165, 5, 24, 0, false)]
def N_MO : List am_NR := []
def C_MO_0 : List am_MR := [(64, 1, 5, 3, m_MO_isIn), (74, 0, 5, 1, m_MO_no), (82, 1, 5, 1, m_MO_isLabel), (86, 0, 5, 1, m_MO_isTransition), (89, 0, 5, 1, m_MO_isPlace), (115, 0, 5, 1, m_MO_numberOf)]
set_option maxRecDepth 100000 in
theorem okM_MO_0 : am_all2 (am_okMb "TraceAlignerModel" "TraceAligner" am_cl am_big) C_MO_0 [(720, 16, 718, 719, 0), (710, 16, 708, 709, 913), (717, 16, 715, 716, 0), (727, 16, 725, 726, 914), (730, 16, 728, 729, 915), (761, 16, 759, 760, 918)] = true := by decide +kernel
def C_MO_1 : List am_MR := [(118, 0, 5, 0, m_MO_look), (121, 0, 5, 1, m_MO_asks), (124, 0, 5, 1, m_MO_enabledIn), (130, 0, 5, 1, m_MO_isTrace), (178, 0, 5, 1, m_MO_asksTrace), (190, 1, 0, 1, m_IN_bitCount)]
set_option maxRecDepth 100000 in
theorem okM_MO_1 : am_all2 (am_okMb "TraceAlignerModel" "TraceAligner" am_cl am_big) C_MO_1 [(755, 16, 753, 754, 916), (768, 16, 766, 767, 919), (775, 16, 773, 774, 920), (815, 16, 813, 814, 921), (830, 16, 828, 829, 922), (634, 25, 893, 633, 0)] = true := by decide +kernel
def C_MO : List am_MR := C_MO_0 ++ (C_MO_1)
set_option maxRecDepth 100000 in
theorem okF_MO : am_all2 (am_okFb "TraceAlignerModel" am_cl am_big) F_MO [644, 645, 646, 647, 650, 652, 654, 655, 656, 660, 661, 662, 666, 667, 668, 641, 642, 643, 653, 657, 649, 648, 659, 658, 651, 663, 664, 669, 665] = true := by decide +kernel
set_option maxRecDepth 100000 in
theorem okN_MO : am_all2 (am_okNb "TraceAlignerModel" am_cl am_big) N_MO [] = true := by decide +kernel
theorem okT_MO : am_okT am_cl am_big "TraceAlignerModel" (F_MO, N_MO, C_MO) := ⟨am_okF_of am_cl_ok okF_MO, am_okN_of am_cl_ok okN_MO, (am_okM_app (am_okM_of "TraceAligner" okM_MO_0) (am_okM_of "TraceAligner" okM_MO_1))⟩
def F_IN : List am_FR := []
def N_IN : List am_NR := []
def C_IN_0 : List am_MR := []
set_option maxRecDepth 100000 in
theorem okM_IN_0 : am_all2 (am_okMb "java/lang/Integer" "TraceAligner" am_cl am_big) C_IN_0 [] = true := by decide +kernel
def C_IN : List am_MR := C_IN_0
set_option maxRecDepth 100000 in
theorem okF_IN : am_all2 (am_okFb "java/lang/Integer" am_cl am_big) F_IN [] = true := by decide +kernel
set_option maxRecDepth 100000 in
theorem okN_IN : am_all2 (am_okNb "java/lang/Integer" am_cl am_big) N_IN [] = true := by decide +kernel
theorem okT_IN : am_okT am_cl am_big "java/lang/Integer" (F_IN, N_IN, C_IN) := ⟨am_okF_of am_cl_ok okF_IN, am_okN_of am_cl_ok okN_IN, (am_okM_of "TraceAligner" okM_IN_0)⟩
def F_AR : List am_FR := []
def N_AR : List am_NR := []
def C_AR_0 : List am_MR := []
set_option maxRecDepth 100000 in
theorem okM_AR_0 : am_all2 (am_okMb "java/util/Arrays" "TraceAligner" am_cl am_big) C_AR_0 [] = true := by decide +kernel
def C_AR : List am_MR := C_AR_0
set_option maxRecDepth 100000 in
theorem okF_AR : am_all2 (am_okFb "java/util/Arrays" am_cl am_big) F_AR [] = true := by decide +kernel
set_option maxRecDepth 100000 in
theorem okN_AR : am_all2 (am_okNb "java/util/Arrays" am_cl am_big) N_AR [] = true := by decide +kernel
theorem okT_AR : am_okT am_cl am_big "java/util/Arrays" (F_AR, N_AR, C_AR) := ⟨am_okF_of am_cl_ok okF_AR, am_okN_of am_cl_ok okN_AR, (am_okM_of "TraceAligner" okM_AR_0)⟩
def F_LW : List am_FR := []
def N_LW : List am_NR := [(8, 0, [.null, .null, .null, .null, .null, .int 0, .null, .int 0, .null]), (105, 5, [.int 0, .int 0, .int 0, .null, .null, .null, .null, .int 0, .int 0, .null, .int 0, .null, .int 0, .null, .null, .null, .int 0, .int 0, .int 0, .null, .null, .null, .int 0, .int 0, .int 0, .null, .null, .null, .int 0])]
def C_LW_10 : List am_MR := [(210, 0, 5, 0, m_MO_digest)]
set_option maxRecDepth 100000 in
theorem okP_LW_10 : ∀ q ∈ C_LW_10, am_okM "TraceAlignerLaw" am_cl am_big q := fun q hq => by
  cases List.mem_singleton.mp hq
  exact ⟨List.mem_of_getElem? (i := 897) rfl, ⟨by decide +kernel, by decide +kernel, by decide +kernel⟩, List.mem_of_getElem? (i := 16) rfl, ⟨List.mem_of_getElem? (i := 894) rfl, List.mem_of_getElem? (i := 895) rfl, List.mem_of_getElem? (i := 896) rfl, rfl⟩⟩
def C_LW_0 : List am_MR := [(7, 0, 0, 0, m_TA_addPlace), (15, 0, 0, 1, m_TA_addTransition), (21, 0, 0, 4, m_TA_link), (27, 0, 0, 3, m_TA_setTokens), (31, 0, 0, 1, m_TA_count), (34, 0, 0, 1, m_TA_label)]
set_option maxRecDepth 100000 in
theorem okM_LW_0 : am_all2 (am_okMb "TraceAlignerLaw" "TraceAligner" am_cl am_big) C_LW_0 [(290, 10, 287, 288, 289), (357, 10, 354, 355, 356), (386, 10, 383, 384, 385), (414, 10, 411, 412, 413), (421, 10, 418, 419, 420), (428, 10, 425, 426, 427)] = true := by decide +kernel
def C_LW_1 : List am_MR := [(37, 0, 0, 2, m_TA_tokens), (41, 0, 0, 1, m_TA_enabled), (44, 0, 0, 2, m_TA_next), (47, 0, 0, 0, m_TA_last), (50, 0, 0, 0, m_TA_dead), (53, 0, 0, 0, m_TA_live)]
set_option maxRecDepth 100000 in
theorem okM_LW_1 : am_all2 (am_okMb "TraceAlignerLaw" "TraceAligner" am_cl am_big) C_LW_1 [(435, 10, 432, 433, 434), (449, 10, 446, 447, 448), (456, 10, 453, 454, 455), (464, 10, 461, 462, 463), (471, 10, 468, 469, 470), (478, 10, 475, 476, 477)] = true := by decide +kernel
def C_LW_2 : List am_MR := [(56, 0, 0, 1, m_TA_away), (59, 0, 0, 1, m_TA_event), (62, 0, 0, 1, m_TA_store), (65, 0, 0, 0, m_TA_dropTrace), (68, 0, 0, 1, m_TA_length), (71, 0, 0, 2, m_TA_setLabelCost)]
set_option maxRecDepth 100000 in
theorem okM_LW_2 : am_all2 (am_okMb "TraceAlignerLaw" "TraceAligner" am_cl am_big) C_LW_2 [(485, 10, 482, 483, 484), (496, 10, 493, 494, 495), (503, 10, 500, 501, 502), (516, 10, 513, 514, 515), (523, 10, 520, 521, 522), (533, 10, 530, 531, 532)] = true := by decide +kernel
def C_LW_3 : List am_MR := [(74, 0, 0, 2, m_TA_setCost), (77, 0, 0, 1, m_TA_cost), (80, 0, 0, 1, m_TA_moves), (83, 0, 0, 3, m_TA_move), (87, 0, 0, 1, m_TA_worst), (90, 0, 0, 1, m_TA_fitness)]
set_option maxRecDepth 100000 in
theorem okM_LW_3 : am_all2 (am_okMb "TraceAlignerLaw" "TraceAligner" am_cl am_big) C_LW_3 [(543, 10, 540, 541, 542), (550, 10, 547, 548, 549), (560, 10, 557, 558, 559), (567, 10, 564, 565, 566), (582, 10, 579, 580, 581), (589, 10, 586, 587, 588)] = true := by decide +kernel
def C_LW_4 : List am_MR := [(94, 0, 0, 2, m_TA_total), (97, 0, 0, 0, m_TA_allFitness), (101, 0, 0, 0, m_TA_precision), (104, 2, 0, 0, m_TA_init), (107, 2, 5, 0, m_MO_init), (113, 0, 5, 0, m_MO_addPlace)]
set_option maxRecDepth 100000 in
theorem okM_LW_4 : am_all2 (am_okMb "TraceAlignerLaw" "TraceAligner" am_cl am_big) C_LW_4 [(603, 10, 600, 601, 602), (614, 10, 611, 612, 613), (621, 10, 618, 619, 620), (30, 10, 28, 29, 0), (639, 16, 637, 638, 0), (707, 16, 704, 705, 706)] = true := by decide +kernel
def C_LW_5 : List am_MR := [(114, 0, 5, 0, m_MO_thrown), (120, 0, 5, 1, m_MO_addTransition), (124, 0, 5, 4, m_MO_link), (128, 0, 5, 3, m_MO_setTokens), (131, 0, 5, 1, m_MO_count), (134, 0, 5, 1, m_MO_label)]
set_option maxRecDepth 100000 in
theorem okM_LW_5 : am_all2 (am_okMb "TraceAlignerLaw" "TraceAligner" am_cl am_big) C_LW_5 [(703, 16, 700, 701, 702), (714, 16, 711, 712, 713), (724, 16, 721, 722, 723), (737, 16, 734, 735, 736), (744, 16, 741, 742, 743), (748, 16, 745, 746, 747)] = true := by decide +kernel
def C_LW_6 : List am_MR := [(135, 0, 0, 0, m_TA_markings), (138, 0, 5, 0, m_MO_markings), (142, 0, 5, 2, m_MO_tokens), (145, 0, 5, 1, m_MO_enabled), (148, 0, 5, 2, m_MO_next), (151, 0, 5, 0, m_MO_last)]
set_option maxRecDepth 100000 in
theorem okM_LW_6 : am_all2 (am_okMb "TraceAlignerLaw" "TraceAligner" am_cl am_big) C_LW_6 [(179, 10, 176, 177, 178), (752, 16, 749, 750, 751), (765, 16, 762, 763, 764), (772, 16, 769, 770, 771), (779, 16, 776, 777, 778), (783, 16, 780, 781, 782)] = true := by decide +kernel
def C_LW_7 : List am_MR := [(154, 0, 5, 0, m_MO_dead), (157, 0, 5, 0, m_MO_live), (160, 0, 5, 1, m_MO_away), (163, 0, 5, 1, m_MO_event), (166, 0, 5, 1, m_MO_store), (169, 0, 5, 0, m_MO_dropTrace)]
set_option maxRecDepth 100000 in
theorem okM_LW_7 : am_all2 (am_okMb "TraceAlignerLaw" "TraceAligner" am_cl am_big) C_LW_7 [(787, 16, 784, 785, 786), (791, 16, 788, 789, 790), (795, 16, 792, 793, 794), (800, 16, 797, 798, 799), (804, 16, 801, 802, 803), (808, 16, 805, 806, 807)] = true := by decide +kernel
def C_LW_8 : List am_MR := [(172, 0, 5, 1, m_MO_length), (175, 0, 5, 2, m_MO_setLabelCost), (178, 0, 5, 2, m_MO_setCost), (181, 0, 5, 1, m_MO_cost), (184, 0, 5, 1, m_MO_moves), (188, 0, 5, 3, m_MO_move)]
set_option maxRecDepth 100000 in
theorem okM_LW_8 : am_all2 (am_okMb "TraceAlignerLaw" "TraceAligner" am_cl am_big) C_LW_8 [(812, 16, 809, 810, 811), (819, 16, 816, 817, 818), (823, 16, 820, 821, 822), (827, 16, 824, 825, 826), (856, 16, 853, 854, 855), (869, 16, 866, 867, 868)] = true := by decide +kernel
def C_LW_9 : List am_MR := [(191, 0, 5, 1, m_MO_worst), (195, 0, 5, 1, m_MO_fitness), (198, 0, 5, 2, m_MO_total), (202, 0, 5, 0, m_MO_allFitness), (205, 0, 5, 0, m_MO_precision), (206, 0, 0, 0, m_TA_digest)]
set_option maxRecDepth 100000 in
theorem okM_LW_9 : am_all2 (am_okMb "TraceAlignerLaw" "TraceAligner" am_cl am_big) C_LW_9 [(873, 16, 870, 871, 872), (880, 16, 877, 878, 879), (884, 16, 881, 882, 883), (888, 16, 885, 886, 887), (892, 16, 889, 890, 891), (211, 10, 208, 209, 210)] = true := by decide +kernel
def C_LW : List am_MR := C_LW_0 ++ (C_LW_1 ++ (C_LW_2 ++ (C_LW_3 ++ (C_LW_4 ++ (C_LW_5 ++ (C_LW_6 ++ (C_LW_7 ++ (C_LW_8 ++ (C_LW_9 ++ (C_LW_10))))))))))
set_option maxRecDepth 100000 in
theorem okF_LW : am_all2 (am_okFb "TraceAlignerLaw" am_cl am_big) F_LW [] = true := by decide +kernel
set_option maxRecDepth 100000 in
theorem okN_LW : am_all2 (am_okNb "TraceAlignerLaw" am_cl am_big) N_LW [(26, 27, 10), (635, 636, 16)] = true := by decide +kernel
theorem okT_LW : am_okT am_cl am_big "TraceAlignerLaw" (F_LW, N_LW, C_LW) := ⟨am_okF_of am_cl_ok okF_LW, am_okN_of am_cl_ok okN_LW, (am_okM_app (am_okM_of "TraceAligner" okM_LW_0) (am_okM_app (am_okM_of "TraceAligner" okM_LW_1) (am_okM_app (am_okM_of "TraceAligner" okM_LW_2) (am_okM_app (am_okM_of "TraceAligner" okM_LW_3) (am_okM_app (am_okM_of "TraceAligner" okM_LW_4) (am_okM_app (am_okM_of "TraceAligner" okM_LW_5) (am_okM_app (am_okM_of "TraceAligner" okM_LW_6) (am_okM_app (am_okM_of "TraceAligner" okM_LW_7) (am_okM_app (am_okM_of "TraceAligner" okM_LW_8) (am_okM_app (am_okM_of "TraceAligner" okM_LW_9) okP_LW_10))))))))))⟩
set_option maxRecDepth 100000 in
def r_MG_init_0 : List am_Row := [(0, .aload_n 0, 1, 0, .null), (1, .invokespecial 3, 4, 0, .null), (4, .aload_n 0, 5, 0, .null), (5, .sipush 200, 8, 0, .int (nI 200)), (8, .newarray .int, 10, 0, .null), (10, .putfield 9, 13, 0, .null), (13, .aload_n 0, 14, 0, .null), (14, .sipush 200, 17, 0, .int (nI 200)), (17, .newarray .int, 19, 0, .null), (19, .putfield 15, 22, 0, .null), (22, .aload_n 0, 23, 0, .null), (23, .sipush 2000, 26, 0, .int (nI 2000)), (26, .newarray .int, 28, 0, .null), (28, .putfield 18, 31, 0, .null), (31, .aload_n 0, 32, 0, .null), (32, .aload_n 1, 33, 0, .null), (33, .putfield 21, 36, 0, .null), (36, .return_, 37, 0, .null)]
set_option maxRecDepth 100000 in
theorem ok_MG_init_0 : r_MG_init_0.all (am_okRowb "TraceAligner$MarkingGraph" prog_2_method_1_code am_big) = true := by decide +kernel
def r_MG_init : List am_Row := r_MG_init_0
def E_MG_init : am_E := (am_G0, (F_MG, N_MG, C_MG), m_MG_init, r_MG_init)
theorem e_MG_init : am_okE E_MG_init := ⟨am_big_good, okT_MG, am_okRow_of ok_MG_init_0⟩
set_option maxRecDepth 100000 in
def r_MG_explore_0 : List am_Row := [(0, .aload_n 0, 1, 0, .null), (1, .getfield 25, 4, 0, .null), (4, .ifCond .eq 4, 7, 8, .null), (7, .return_, 8, 0, .null), (8, .aload_n 0, 9, 0, .null), (9, .iconst 1, 10, 0, .int (nI 1)), (10, .putfield 25, 13, 0, .null), (13, .aload_n 0, 14, 0, .null), (14, .iconst (-1), 15, 0, .int (-1)), (15, .putfield 29, 18, 0, .null), (18, .aload_n 0, 19, 0, .null), (19, .getfield 9, 22, 0, .null), (22, .iconst 0, 23, 0, .int (nI 0)), (23, .aload_n 0, 24, 0, .null), (24, .getfield 21, 27, 0, .null), (27, .aload_n 0, 28, 0, .null), (28, .getfield 21, 31, 0, .null), (31, .getfield 33, 34, 0, .null), (34, .invokevirtual 38, 37, 0, .null), (37, .iastore, 38, 0, .null), (38, .aload_n 0, 39, 0, .null), (39, .iconst 1, 40, 0, .int (nI 1)), (40, .putfield 42, 43, 0, .null), (43, .iconst 0, 44, 0, .int (nI 0)), (44, .istore_n 1, 45, 0, .null), (45, .iload_n 1, 46, 0, .null), (46, .sipush 200, 49, 0, .int (nI 200)), (49, .if_icmp .ge 31, 52, 80, .null), (52, .iload_n 1, 53, 0, .null), (53, .aload_n 0, 54, 0, .null), (54, .getfield 42, 57, 0, .null), (57, .if_icmp .ge 23, 60, 80, .null), (60, .aload_n 0, 61, 0, .null), (61, .iload_n 1, 62, 0, .null), (62, .invokevirtual 45, 65, 0, .null), (65, .ifCond .ne 9, 68, 74, .null), (68, .aload_n 0, 69, 0, .null), (69, .iconst (-1), 70, 0, .int (-1)), (70, .putfield 42, 73, 0, .null), (73, .return_, 74, 0, .null)]
set_option maxRecDepth 100000 in
theorem ok_MG_explore_0 : r_MG_explore_0.all (am_okRowb "TraceAligner$MarkingGraph" prog_2_method_2_code am_big) = true := by decide +kernel
set_option maxRecDepth 100000 in
def r_MG_explore_1 : List am_Row := [(74, .iinc 1 1, 77, 0, .int (nI 1)), (77, .goto (-32), 80, 45, .null), (80, .aload_n 0, 81, 0, .null), (81, .aload_n 0, 82, 0, .null), (82, .aload_n 0, 83, 0, .null), (83, .getfield 21, 86, 0, .null), (86, .aload_n 0, 87, 0, .null), (87, .getfield 21, 90, 0, .null), (90, .getfield 49, 93, 0, .null), (93, .invokevirtual 38, 96, 0, .null), (96, .invokevirtual 52, 99, 0, .null), (99, .putfield 29, 102, 0, .null), (102, .return_, 103, 0, .null)]
set_option maxRecDepth 100000 in
theorem ok_MG_explore_1 : r_MG_explore_1.all (am_okRowb "TraceAligner$MarkingGraph" prog_2_method_2_code am_big) = true := by decide +kernel
def r_MG_explore : List am_Row := r_MG_explore_0 ++ (r_MG_explore_1)
def E_MG_explore : am_E := (am_G0, (F_MG, N_MG, C_MG), m_MG_explore, r_MG_explore)
theorem e_MG_explore : am_okE E_MG_explore := ⟨am_big_good, okT_MG, am_okRow_of (am_all_app ok_MG_explore_0 ok_MG_explore_1)⟩
set_option maxRecDepth 100000 in
def r_MG_followAll_0 : List am_Row := [(0, .aload_n 0, 1, 0, .null), (1, .getfield 15, 4, 0, .null), (4, .iload_n 1, 5, 0, .null), (5, .iconst 0, 6, 0, .int (nI 0)), (6, .iastore, 7, 0, .null), (7, .iconst 0, 8, 0, .int (nI 0)), (8, .istore_n 2, 9, 0, .null), (9, .iload_n 2, 10, 0, .null), (10, .aload_n 0, 11, 0, .null), (11, .getfield 21, 14, 0, .null), (14, .getfield 56, 17, 0, .null), (17, .if_icmp .ge 72, 20, 89, .null), (20, .aload_n 0, 21, 0, .null), (21, .getfield 21, 24, 0, .null), (24, .aload_n 0, 25, 0, .null), (25, .getfield 9, 28, 0, .null), (28, .iload_n 1, 29, 0, .null), (29, .iaload, 30, 0, .null), (30, .iload_n 2, 31, 0, .null), (31, .invokevirtual 59, 34, 0, .null), (34, .istore_n 3, 35, 0, .null), (35, .iconst (-1), 36, 0, .int (-1)), (36, .istore 4, 38, 0, .null), (38, .iload_n 3, 39, 0, .null), (39, .iconst (-1), 40, 0, .int (-1)), (40, .if_icmp .eq 30, 43, 70, .null), (43, .aload_n 0, 44, 0, .null), (44, .iload_n 3, 45, 0, .null), (45, .invokevirtual 63, 48, 0, .null), (48, .istore 4, 50, 0, .null), (50, .iload 4, 52, 0, .null), (52, .iconst (-1), 53, 0, .int (-1)), (53, .if_icmp .ne 5, 56, 58, .null), (56, .iconst 0, 57, 0, .int (nI 0)), (57, .ireturn, 58, 0, .null), (58, .aload_n 0, 59, 0, .null), (59, .getfield 15, 62, 0, .null), (62, .iload_n 1, 63, 0, .null), (63, .dup2, 64, 0, .null), (64, .iaload, 65, 0, .null)]
set_option maxRecDepth 100000 in
theorem ok_MG_followAll_0 : r_MG_followAll_0.all (am_okRowb "TraceAligner$MarkingGraph" prog_2_method_3_code am_big) = true := by decide +kernel
set_option maxRecDepth 100000 in
def r_MG_followAll_1 : List am_Row := [(65, .iconst 1, 66, 0, .int (nI 1)), (66, .iload_n 2, 67, 0, .null), (67, .ishl, 68, 0, .null), (68, .ior, 69, 0, .null), (69, .iastore, 70, 0, .null), (70, .aload_n 0, 71, 0, .null), (71, .getfield 18, 74, 0, .null), (74, .iload_n 1, 75, 0, .null), (75, .bipush 10, 77, 0, .int (nI 10)), (77, .imul, 78, 0, .null), (78, .iload_n 2, 79, 0, .null), (79, .iadd, 80, 0, .null), (80, .iload 4, 82, 0, .null), (82, .iastore, 83, 0, .null), (83, .iinc 2 1, 86, 0, .int (nI 1)), (86, .goto (-77), 89, 9, .null), (89, .iconst 1, 90, 0, .int (nI 1)), (90, .ireturn, 91, 0, .null)]
set_option maxRecDepth 100000 in
theorem ok_MG_followAll_1 : r_MG_followAll_1.all (am_okRowb "TraceAligner$MarkingGraph" prog_2_method_3_code am_big) = true := by decide +kernel
def r_MG_followAll : List am_Row := r_MG_followAll_0 ++ (r_MG_followAll_1)
def E_MG_followAll : am_E := (am_G0, (F_MG, N_MG, C_MG), m_MG_followAll, r_MG_followAll)
theorem e_MG_followAll : am_okE E_MG_followAll := ⟨am_big_good, okT_MG, am_okRow_of (am_all_app ok_MG_followAll_0 ok_MG_followAll_1)⟩
set_option maxRecDepth 100000 in
def r_MG_numberOf_0 : List am_Row := [(0, .iconst 0, 1, 0, .int (nI 0)), (1, .istore_n 2, 2, 0, .null), (2, .iload_n 2, 3, 0, .null), (3, .aload_n 0, 4, 0, .null), (4, .getfield 42, 7, 0, .null), (7, .if_icmp .ge 21, 10, 28, .null), (10, .aload_n 0, 11, 0, .null), (11, .getfield 9, 14, 0, .null), (14, .iload_n 2, 15, 0, .null), (15, .iaload, 16, 0, .null), (16, .iload_n 1, 17, 0, .null), (17, .if_icmp .ne 5, 20, 22, .null), (20, .iload_n 2, 21, 0, .null), (21, .ireturn, 22, 0, .null), (22, .iinc 2 1, 25, 0, .int (nI 1)), (25, .goto (-23), 28, 2, .null), (28, .iconst (-1), 29, 0, .int (-1)), (29, .ireturn, 30, 0, .null)]
set_option maxRecDepth 100000 in
theorem ok_MG_numberOf_0 : r_MG_numberOf_0.all (am_okRowb "TraceAligner$MarkingGraph" prog_2_method_4_code am_big) = true := by decide +kernel
def r_MG_numberOf : List am_Row := r_MG_numberOf_0
def E_MG_numberOf : am_E := (am_G0, (F_MG, N_MG, C_MG), m_MG_numberOf, r_MG_numberOf)
theorem e_MG_numberOf : am_okE E_MG_numberOf := ⟨am_big_good, okT_MG, am_okRow_of ok_MG_numberOf_0⟩
set_option maxRecDepth 100000 in
def r_MG_follower_0 : List am_Row := [(0, .aload_n 0, 1, 0, .null), (1, .getfield 18, 4, 0, .null), (4, .iload_n 1, 5, 0, .null), (5, .bipush 10, 7, 0, .int (nI 10)), (7, .imul, 8, 0, .null), (8, .iload_n 2, 9, 0, .null), (9, .iadd, 10, 0, .null), (10, .iaload, 11, 0, .null), (11, .ireturn, 12, 0, .null)]
set_option maxRecDepth 100000 in
theorem ok_MG_follower_0 : r_MG_follower_0.all (am_okRowb "TraceAligner$MarkingGraph" prog_2_method_6_code am_big) = true := by decide +kernel
def r_MG_follower : List am_Row := r_MG_follower_0
def E_MG_follower : am_E := (am_G0, (F_MG, N_MG, C_MG), m_MG_follower, r_MG_follower)
theorem e_MG_follower : am_okE E_MG_follower := ⟨am_big_good, okT_MG, am_okRow_of ok_MG_follower_0⟩
set_option maxRecDepth 100000 in
def r_MG_relax_0 : List am_Row := [(0, .iconst 0, 1, 0, .int (nI 0)), (1, .istore_n 3, 2, 0, .null), (2, .iload_n 3, 3, 0, .null), (3, .aload_n 0, 4, 0, .null), (4, .getfield 42, 7, 0, .null), (7, .if_icmp .ge 19, 10, 26, .null), (10, .aload_n 0, 11, 0, .null), (11, .aload_n 1, 12, 0, .null), (12, .aload_n 2, 13, 0, .null), (13, .invokevirtual 66, 16, 0, .null), (16, .ifCond .ne 4, 19, 20, .null), (19, .return_, 20, 0, .null), (20, .iinc 3 1, 23, 0, .int (nI 1)), (23, .goto (-21), 26, 2, .null), (26, .return_, 27, 0, .null)]
set_option maxRecDepth 100000 in
theorem ok_MG_relax_0 : r_MG_relax_0.all (am_okRowb "TraceAligner$MarkingGraph" prog_2_method_7_code am_big) = true := by decide +kernel
def r_MG_relax : List am_Row := r_MG_relax_0
def E_MG_relax : am_E := (am_G0, (F_MG, N_MG, C_MG), m_MG_relax, r_MG_relax)
theorem e_MG_relax : am_okE E_MG_relax := ⟨am_big_good, okT_MG, am_okRow_of ok_MG_relax_0⟩
set_option maxRecDepth 100000 in
def r_MG_relaxOnce_0 : List am_Row := [(0, .iconst 0, 1, 0, .int (nI 0)), (1, .istore_n 3, 2, 0, .null), (2, .aload_n 0, 3, 0, .null), (3, .getfield 42, 6, 0, .null), (6, .iconst 1, 7, 0, .int (nI 1)), (7, .isub, 8, 0, .null), (8, .istore 4, 10, 0, .null), (10, .iload 4, 12, 0, .null), (12, .ifCond .lt 82, 15, 94, .null), (15, .iconst 0, 16, 0, .int (nI 0)), (16, .istore 5, 18, 0, .null), (18, .iload 5, 20, 0, .null), (20, .aload_n 0, 21, 0, .null), (21, .getfield 21, 24, 0, .null), (24, .getfield 56, 27, 0, .null), (27, .if_icmp .ge 61, 30, 88, .null), (30, .aload_n 0, 31, 0, .null), (31, .getfield 18, 34, 0, .null), (34, .iload 4, 36, 0, .null), (36, .bipush 10, 38, 0, .int (nI 10)), (38, .imul, 39, 0, .null), (39, .iload 5, 41, 0, .null), (41, .iadd, 42, 0, .null), (42, .iaload, 43, 0, .null), (43, .istore 6, 45, 0, .null), (45, .iload 6, 47, 0, .null), (47, .iconst (-1), 48, 0, .int (-1)), (48, .if_icmp .eq 34, 51, 82, .null), (51, .aload_n 1, 52, 0, .null), (52, .iload 6, 54, 0, .null), (54, .iaload, 55, 0, .null), (55, .aload_n 2, 56, 0, .null), (56, .iload 5, 58, 0, .null), (58, .iaload, 59, 0, .null), (59, .iadd, 60, 0, .null), (60, .aload_n 1, 61, 0, .null), (61, .iload 4, 63, 0, .null), (63, .iaload, 64, 0, .null), (64, .if_icmp .ge 18, 67, 82, .null), (67, .aload_n 1, 68, 0, .null)]
set_option maxRecDepth 100000 in
theorem ok_MG_relaxOnce_0 : r_MG_relaxOnce_0.all (am_okRowb "TraceAligner$MarkingGraph" prog_2_method_8_code am_big) = true := by decide +kernel
set_option maxRecDepth 100000 in
def r_MG_relaxOnce_1 : List am_Row := [(68, .iload 4, 70, 0, .null), (70, .aload_n 1, 71, 0, .null), (71, .iload 6, 73, 0, .null), (73, .iaload, 74, 0, .null), (74, .aload_n 2, 75, 0, .null), (75, .iload 5, 77, 0, .null), (77, .iaload, 78, 0, .null), (78, .iadd, 79, 0, .null), (79, .iastore, 80, 0, .null), (80, .iconst 1, 81, 0, .int (nI 1)), (81, .istore_n 3, 82, 0, .null), (82, .iinc 5 1, 85, 0, .int (nI 1)), (85, .goto (-67), 88, 18, .null), (88, .iinc 4 (-1), 91, 0, .int (-1)), (91, .goto (-81), 94, 10, .null), (94, .iload_n 3, 95, 0, .null), (95, .ireturn, 96, 0, .null)]
set_option maxRecDepth 100000 in
theorem ok_MG_relaxOnce_1 : r_MG_relaxOnce_1.all (am_okRowb "TraceAligner$MarkingGraph" prog_2_method_8_code am_big) = true := by decide +kernel
def r_MG_relaxOnce : List am_Row := r_MG_relaxOnce_0 ++ (r_MG_relaxOnce_1)
def E_MG_relaxOnce : am_E := (am_G0, (F_MG, N_MG, C_MG), m_MG_relaxOnce, r_MG_relaxOnce)
theorem e_MG_relaxOnce : am_okE E_MG_relaxOnce := ⟨am_big_good, okT_MG, am_okRow_of (am_all_app ok_MG_relaxOnce_0 ok_MG_relaxOnce_1)⟩
set_option maxRecDepth 100000 in
def r_NT_init_0 : List am_Row := [(0, .aload_n 0, 1, 0, .null), (1, .invokespecial 3, 4, 0, .null), (4, .aload_n 0, 5, 0, .null), (5, .bipush 10, 7, 0, .int (nI 10)), (7, .newarray .int, 9, 0, .null), (9, .putfield 9, 12, 0, .null), (12, .aload_n 0, 13, 0, .null), (13, .bipush 10, 15, 0, .int (nI 10)), (15, .newarray .int, 17, 0, .null), (17, .putfield 15, 20, 0, .null), (20, .aload_n 0, 21, 0, .null), (21, .bipush 10, 23, 0, .int (nI 10)), (23, .newarray .int, 25, 0, .null), (25, .putfield 18, 28, 0, .null), (28, .aload_n 0, 29, 0, .null), (29, .bipush 10, 31, 0, .int (nI 10)), (31, .newarray .int, 33, 0, .null), (33, .putfield 21, 36, 0, .null), (36, .aload_n 0, 37, 0, .null), (37, .bipush 8, 39, 0, .int (nI 8)), (39, .newarray .int, 41, 0, .null), (41, .putfield 24, 44, 0, .null), (44, .aload_n 0, 45, 0, .null), (45, .bipush 8, 47, 0, .int (nI 8)), (47, .newarray .int, 49, 0, .null), (49, .putfield 27, 52, 0, .null), (52, .return_, 53, 0, .null)]
set_option maxRecDepth 100000 in
theorem ok_NT_init_0 : r_NT_init_0.all (am_okRowb "TraceAligner$Net" prog_3_method_1_code am_big) = true := by decide +kernel
def r_NT_init : List am_Row := r_NT_init_0
def E_NT_init : am_E := (am_G0, (F_NT, N_NT, C_NT), m_NT_init, r_NT_init)
theorem e_NT_init : am_okE E_NT_init := ⟨am_big_good, okT_NT, am_okRow_of ok_NT_init_0⟩
set_option maxRecDepth 100000 in
def r_NT_appendPlace_0 : List am_Row := [(0, .aload_n 0, 1, 0, .null), (1, .dup, 2, 0, .null), (2, .getfield 30, 5, 0, .null), (5, .iconst 1, 6, 0, .int (nI 1)), (6, .iadd, 7, 0, .null), (7, .putfield 30, 10, 0, .null), (10, .aload_n 0, 11, 0, .null), (11, .getfield 30, 14, 0, .null), (14, .iconst 1, 15, 0, .int (nI 1)), (15, .isub, 16, 0, .null), (16, .ireturn, 17, 0, .null)]
set_option maxRecDepth 100000 in
theorem ok_NT_appendPlace_0 : r_NT_appendPlace_0.all (am_okRowb "TraceAligner$Net" prog_3_method_2_code am_big) = true := by decide +kernel
def r_NT_appendPlace : List am_Row := r_NT_appendPlace_0
def E_NT_appendPlace : am_E := (am_G0, (F_NT, N_NT, C_NT), m_NT_appendPlace, r_NT_appendPlace)
theorem e_NT_appendPlace : am_okE E_NT_appendPlace := ⟨am_big_good, okT_NT, am_okRow_of ok_NT_appendPlace_0⟩
set_option maxRecDepth 100000 in
def r_NT_appendTransition_0 : List am_Row := [(0, .aload_n 0, 1, 0, .null), (1, .getfield 9, 4, 0, .null), (4, .aload_n 0, 5, 0, .null), (5, .getfield 34, 8, 0, .null), (8, .iload_n 1, 9, 0, .null), (9, .iastore, 10, 0, .null), (10, .aload_n 0, 11, 0, .null), (11, .getfield 15, 14, 0, .null), (14, .aload_n 0, 15, 0, .null), (15, .getfield 34, 18, 0, .null), (18, .iload_n 1, 19, 0, .null), (19, .iconst (-1), 20, 0, .int (-1)), (20, .if_icmp .ne 7, 23, 27, .null), (23, .iconst 0, 24, 0, .int (nI 0)), (24, .goto 4, 27, 28, .null), (27, .iconst 1, 28, 0, .int (nI 1)), (28, .iastore, 29, 0, .null), (29, .aload_n 0, 30, 0, .null), (30, .dup, 31, 0, .null), (31, .getfield 34, 34, 0, .null), (34, .iconst 1, 35, 0, .int (nI 1)), (35, .iadd, 36, 0, .null), (36, .putfield 34, 39, 0, .null), (39, .aload_n 0, 40, 0, .null), (40, .getfield 34, 43, 0, .null), (43, .iconst 1, 44, 0, .int (nI 1)), (44, .isub, 45, 0, .null), (45, .ireturn, 46, 0, .null)]
set_option maxRecDepth 100000 in
theorem ok_NT_appendTransition_0 : r_NT_appendTransition_0.all (am_okRowb "TraceAligner$Net" prog_3_method_3_code am_big) = true := by decide +kernel
def r_NT_appendTransition : List am_Row := r_NT_appendTransition_0
def E_NT_appendTransition : am_E := (am_G0, (F_NT, N_NT, C_NT), m_NT_appendTransition, r_NT_appendTransition)
theorem e_NT_appendTransition : am_okE E_NT_appendTransition := ⟨am_big_good, okT_NT, am_okRow_of ok_NT_appendTransition_0⟩
set_option maxRecDepth 100000 in
def r_NT_codeOf_0 : List am_Row := [(0, .iconst 0, 1, 0, .int (nI 0)), (1, .istore_n 2, 2, 0, .null), (2, .iconst 0, 3, 0, .int (nI 0)), (3, .istore_n 3, 4, 0, .null), (4, .iload_n 3, 5, 0, .null), (5, .aload_n 0, 6, 0, .null), (6, .getfield 30, 9, 0, .null), (9, .if_icmp .ge 19, 12, 28, .null), (12, .iload_n 2, 13, 0, .null), (13, .aload_n 1, 14, 0, .null), (14, .iload_n 3, 15, 0, .null), (15, .iaload, 16, 0, .null), (16, .iconst 2, 17, 0, .int (nI 2)), (17, .iload_n 3, 18, 0, .null), (18, .imul, 19, 0, .null), (19, .ishl, 20, 0, .null), (20, .ior, 21, 0, .null), (21, .istore_n 2, 22, 0, .null), (22, .iinc 3 1, 25, 0, .int (nI 1)), (25, .goto (-21), 28, 4, .null), (28, .iload_n 2, 29, 0, .null), (29, .ireturn, 30, 0, .null)]
set_option maxRecDepth 100000 in
theorem ok_NT_codeOf_0 : r_NT_codeOf_0.all (am_okRowb "TraceAligner$Net" prog_3_method_4_code am_big) = true := by decide +kernel
def r_NT_codeOf : List am_Row := r_NT_codeOf_0
def E_NT_codeOf : am_E := (am_G0, (F_NT, N_NT, C_NT), m_NT_codeOf, r_NT_codeOf)
theorem e_NT_codeOf : am_okE E_NT_codeOf := ⟨am_big_good, okT_NT, am_okRow_of ok_NT_codeOf_0⟩
set_option maxRecDepth 100000 in
def r_PF_init_0 : List am_Row := [(0, .aload_n 0, 1, 0, .null), (1, .invokespecial 3, 4, 0, .null), (4, .aload_n 0, 5, 0, .null), (5, .bipush 10, 7, 0, .int (nI 10)), (7, .newarray .int, 9, 0, .null), (9, .putfield 9, 12, 0, .null), (12, .aload_n 0, 13, 0, .null), (13, .bipush 9, 15, 0, .int (nI 9)), (15, .sipush 200, 18, 0, .int (nI 200)), (18, .multianewarray 15 2, 22, 0, .null), (22, .putfield 17, 25, 0, .null), (25, .aload_n 0, 26, 0, .null), (26, .aload_n 1, 27, 0, .null), (27, .putfield 20, 30, 0, .null), (30, .aload_n 0, 31, 0, .null), (31, .aload_n 2, 32, 0, .null), (32, .putfield 24, 35, 0, .null), (35, .aload_n 0, 36, 0, .null), (36, .aload_n 3, 37, 0, .null), (37, .putfield 28, 40, 0, .null), (40, .return_, 41, 0, .null)]
set_option maxRecDepth 100000 in
theorem ok_PF_init_0 : r_PF_init_0.all (am_okRowb "TraceAligner$PathFinder" prog_4_method_1_code am_big) = true := by decide +kernel
def r_PF_init : List am_Row := r_PF_init_0
def E_PF_init : am_E := (am_G0, (F_PF, N_PF, C_PF), m_PF_init, r_PF_init)
theorem e_PF_init : am_okE E_PF_init := ⟨am_big_good, okT_PF, am_okRow_of ok_PF_init_0⟩
set_option maxRecDepth 100000 in
def r_PF_stepsToLast_0 : List am_Row := [(0, .aload_n 0, 1, 0, .null), (1, .getfield 9, 4, 0, .null), (4, .iconst 1, 5, 0, .int (nI 1)), (5, .invokestatic 31, 8, 0, .null), (8, .aload_n 0, 9, 0, .null), (9, .aload_n 0, 10, 0, .null), (10, .getfield 17, 13, 0, .null), (13, .iconst 0, 14, 0, .int (nI 0)), (14, .aaload, 15, 0, .null), (15, .invokevirtual 37, 18, 0, .null), (18, .aload_n 0, 19, 0, .null), (19, .getfield 17, 22, 0, .null), (22, .iconst 0, 23, 0, .int (nI 0)), (23, .aaload, 24, 0, .null), (24, .iload_n 1, 25, 0, .null), (25, .iaload, 26, 0, .null), (26, .ldc 41, 28, 0, .int (nI 1073741824)), (28, .if_icmp .ne 7, 31, 35, .null), (31, .iconst (-1), 32, 0, .int (-1)), (32, .goto 11, 35, 43, .null), (35, .aload_n 0, 36, 0, .null), (36, .getfield 17, 39, 0, .null), (39, .iconst 0, 40, 0, .int (nI 0)), (40, .aaload, 41, 0, .null), (41, .iload_n 1, 42, 0, .null), (42, .iaload, 43, 0, .null), (43, .ireturn, 44, 0, .null)]
set_option maxRecDepth 100000 in
theorem ok_PF_stepsToLast_0 : r_PF_stepsToLast_0.all (am_okRowb "TraceAligner$PathFinder" prog_4_method_2_code am_big) = true := by decide +kernel
def r_PF_stepsToLast : List am_Row := r_PF_stepsToLast_0
def E_PF_stepsToLast : am_E := (am_G0, (F_PF, N_PF, C_PF), m_PF_stepsToLast, r_PF_stepsToLast)
theorem e_PF_stepsToLast : am_okE E_PF_stepsToLast := ⟨am_big_good, okT_PF, am_okRow_of ok_PF_stepsToLast_0⟩
set_option maxRecDepth 100000 in
def r_PF_weighEnd_0 : List am_Row := [(0, .aload_n 1, 1, 0, .null), (1, .ldc 41, 3, 0, .int (nI 1073741824)), (3, .invokestatic 31, 6, 0, .null), (6, .aload_n 0, 7, 0, .null), (7, .getfield 24, 10, 0, .null), (10, .getfield 48, 13, 0, .null), (13, .iconst (-1), 14, 0, .int (-1)), (14, .if_icmp .eq 13, 17, 27, .null), (17, .aload_n 1, 18, 0, .null), (18, .aload_n 0, 19, 0, .null), (19, .getfield 24, 22, 0, .null), (22, .getfield 48, 25, 0, .null), (25, .iconst 0, 26, 0, .int (nI 0)), (26, .iastore, 27, 0, .null), (27, .aload_n 0, 28, 0, .null), (28, .getfield 24, 31, 0, .null), (31, .aload_n 1, 32, 0, .null), (32, .aload_n 0, 33, 0, .null), (33, .getfield 9, 36, 0, .null), (36, .invokevirtual 95, 39, 0, .null), (39, .return_, 40, 0, .null)]
set_option maxRecDepth 100000 in
theorem ok_PF_weighEnd_0 : r_PF_weighEnd_0.all (am_okRowb "TraceAligner$PathFinder" prog_4_method_5_code am_big) = true := by decide +kernel
def r_PF_weighEnd : List am_Row := r_PF_weighEnd_0
def E_PF_weighEnd : am_E := (am_G0, (F_PF, N_PF, C_PF), m_PF_weighEnd, r_PF_weighEnd)
theorem e_PF_weighEnd : am_okE E_PF_weighEnd := ⟨am_big_good, okT_PF, am_okRow_of ok_PF_weighEnd_0⟩
set_option maxRecDepth 100000 in
def r_TR_init_0 : List am_Row := [(0, .aload_n 0, 1, 0, .null), (1, .invokespecial 3, 4, 0, .null), (4, .aload_n 0, 5, 0, .null), (5, .bipush 8, 7, 0, .int (nI 8)), (7, .newarray .int, 9, 0, .null), (9, .putfield 9, 12, 0, .null), (12, .aload_n 0, 13, 0, .null), (13, .bipush 16, 15, 0, .int (nI 16)), (15, .newarray .int, 17, 0, .null), (17, .putfield 15, 20, 0, .null), (20, .return_, 21, 0, .null)]
set_option maxRecDepth 100000 in
theorem ok_TR_init_0 : r_TR_init_0.all (am_okRowb "TraceAligner$Trace" prog_5_method_1_code am_big) = true := by decide +kernel
def r_TR_init : List am_Row := r_TR_init_0
def E_TR_init : am_E := (am_G0, (F_TR, N_TR, C_TR), m_TR_init, r_TR_init)
theorem e_TR_init : am_okE E_TR_init := ⟨am_big_good, okT_TR, am_okRow_of ok_TR_init_0⟩
set_option maxRecDepth 100000 in
def r_TR_take_0 : List am_Row := [(0, .aload_n 1, 1, 0, .null), (1, .iconst 0, 2, 0, .int (nI 0)), (2, .aload_n 0, 3, 0, .null), (3, .getfield 9, 6, 0, .null), (6, .iconst 0, 7, 0, .int (nI 0)), (7, .iload_n 2, 8, 0, .null), (8, .invokestatic 18, 11, 0, .null), (11, .aload_n 0, 12, 0, .null), (12, .iload_n 2, 13, 0, .null), (13, .putfield 24, 16, 0, .null), (16, .aload_n 0, 17, 0, .null), (17, .iload_n 3, 18, 0, .null), (18, .putfield 28, 21, 0, .null), (21, .aload_n 0, 22, 0, .null), (22, .iconst 0, 23, 0, .int (nI 0)), (23, .putfield 31, 26, 0, .null), (26, .return_, 27, 0, .null)]
set_option maxRecDepth 100000 in
theorem ok_TR_take_0 : r_TR_take_0.all (am_okRowb "TraceAligner$Trace" prog_5_method_2_code am_big) = true := by decide +kernel
def r_TR_take : List am_Row := r_TR_take_0
def E_TR_take : am_E := (am_G0, (F_TR, N_TR, C_TR), m_TR_take, r_TR_take)
theorem e_TR_take : am_okE E_TR_take := ⟨am_big_good, okT_TR, am_okRow_of ok_TR_take_0⟩
set_option maxRecDepth 100000 in
def r_TA_init_0 : List am_Row := [(0, .aload_n 0, 1, 0, .null), (1, .invokespecial 1, 4, 0, .null), (4, .aload_n 0, 5, 0, .null), (5, .new 7, 8, 0, .null), (8, .dup, 9, 0, .null), (9, .invokespecial 9, 12, 0, .null), (12, .putfield 10, 15, 0, .null), (15, .aload_n 0, 16, 0, .null), (16, .new 16, 19, 0, .null), (19, .dup, 20, 0, .null), (20, .aload_n 0, 21, 0, .null), (21, .getfield 10, 24, 0, .null), (24, .invokespecial 18, 27, 0, .null), (27, .putfield 21, 30, 0, .null), (30, .aload_n 0, 31, 0, .null), (31, .bipush 6, 33, 0, .int (nI 6)), (33, .newarray .int, 35, 0, .null), (35, .putfield 25, 38, 0, .null), (38, .aload_n 0, 39, 0, .null), (39, .getfield 25, 42, 0, .null), (42, .iconst 1, 43, 0, .int (nI 1)), (43, .invokestatic 29, 46, 0, .null), (46, .aload_n 0, 47, 0, .null), (47, .new 35, 50, 0, .null), (50, .dup, 51, 0, .null), (51, .aload_n 0, 52, 0, .null), (52, .getfield 10, 55, 0, .null), (55, .aload_n 0, 56, 0, .null), (56, .getfield 21, 59, 0, .null), (59, .aload_n 0, 60, 0, .null), (60, .getfield 25, 63, 0, .null), (63, .invokespecial 37, 66, 0, .null), (66, .putfield 40, 69, 0, .null), (69, .aload_n 0, 70, 0, .null), (70, .bipush 8, 72, 0, .int (nI 8)), (72, .newarray .int, 74, 0, .null), (74, .putfield 44, 77, 0, .null), (77, .aload_n 0, 78, 0, .null), (78, .bipush 8, 80, 0, .int (nI 8)), (80, .anewarray 47, 83, 0, .null)]
set_option maxRecDepth 100000 in
theorem ok_TA_init_0 : r_TA_init_0.all (am_okRowb "TraceAligner" prog_1_method_1_code am_big) = true := by decide +kernel
set_option maxRecDepth 100000 in
def r_TA_init_1 : List am_Row := [(83, .putfield 49, 86, 0, .null), (86, .iconst 0, 87, 0, .int (nI 0)), (87, .istore_n 1, 88, 0, .null), (88, .iload_n 1, 89, 0, .null), (89, .bipush 8, 91, 0, .int (nI 8)), (91, .if_icmp .ge 22, 94, 113, .null), (94, .aload_n 0, 95, 0, .null), (95, .getfield 49, 98, 0, .null), (98, .iload_n 1, 99, 0, .null), (99, .new 47, 102, 0, .null), (102, .dup, 103, 0, .null), (103, .invokespecial 53, 106, 0, .null), (106, .aastore, 107, 0, .null), (107, .iinc 1 1, 110, 0, .int (nI 1)), (110, .goto (-22), 113, 88, .null), (113, .aload_n 0, 114, 0, .null), (114, .sipush 200, 117, 0, .int (nI 200)), (117, .newarray .int, 119, 0, .null), (119, .putfield 54, 122, 0, .null), (122, .return_, 123, 0, .null)]
set_option maxRecDepth 100000 in
theorem ok_TA_init_1 : r_TA_init_1.all (am_okRowb "TraceAligner" prog_1_method_1_code am_big) = true := by decide +kernel
def r_TA_init : List am_Row := r_TA_init_0 ++ (r_TA_init_1)
def E_TA_init : am_E := (am_G0, (F_TA, N_TA, C_TA), m_TA_init, r_TA_init)
theorem e_TA_init : am_okE E_TA_init := ⟨am_big_good, okT_TA, am_okRow_of (am_all_app ok_TA_init_0 ok_TA_init_1)⟩
set_option maxRecDepth 100000 in
def r_TA_addPlace_0 : List am_Row := [(0, .aload_n 0, 1, 0, .null), (1, .getfield 10, 4, 0, .null), (4, .getfield 57, 7, 0, .null), (7, .bipush 8, 9, 0, .int (nI 8)), (9, .if_icmp .lt 13, 12, 22, .null), (12, .new 61, 15, 0, .null), (15, .dup, 16, 0, .null), (16, .ldc 63, 18, 0, .null), (18, .invokespecial 65, 21, 0, .null), (21, .athrow, 22, 0, .null), (22, .aload_n 0, 23, 0, .null), (23, .invokevirtual 68, 26, 0, .null), (26, .aload_n 0, 27, 0, .null), (27, .getfield 10, 30, 0, .null), (30, .invokevirtual 71, 33, 0, .null), (33, .ireturn, 34, 0, .null)]
set_option maxRecDepth 100000 in
theorem ok_TA_addPlace_0 : r_TA_addPlace_0.all (am_okRowb "TraceAligner" prog_1_method_2_code am_big) = true := by decide +kernel
def r_TA_addPlace : List am_Row := r_TA_addPlace_0
def E_TA_addPlace : am_E := (am_G0, (F_TA, N_TA, C_TA), m_TA_addPlace, r_TA_addPlace)
theorem e_TA_addPlace : am_okE E_TA_addPlace := ⟨am_big_good, okT_TA, am_okRow_of ok_TA_addPlace_0⟩
set_option maxRecDepth 100000 in
def r_TA_addTransition_0 : List am_Row := [(0, .iload_n 1, 1, 0, .null), (1, .iconst (-1), 2, 0, .int (-1)), (2, .if_icmp .eq 20, 5, 22, .null), (5, .iload_n 1, 6, 0, .null), (6, .invokestatic 75, 9, 0, .null), (9, .ifCond .eq 13, 12, 22, .null), (12, .new 79, 15, 0, .null), (15, .dup, 16, 0, .null), (16, .ldc 81, 18, 0, .null), (18, .invokespecial 83, 21, 0, .null), (21, .athrow, 22, 0, .null), (22, .aload_n 0, 23, 0, .null), (23, .getfield 10, 26, 0, .null), (26, .getfield 84, 29, 0, .null), (29, .bipush 10, 31, 0, .int (nI 10)), (31, .if_icmp .lt 13, 34, 44, .null), (34, .new 61, 37, 0, .null), (37, .dup, 38, 0, .null), (38, .ldc 87, 40, 0, .null), (40, .invokespecial 65, 43, 0, .null), (43, .athrow, 44, 0, .null), (44, .aload_n 0, 45, 0, .null), (45, .invokevirtual 68, 48, 0, .null), (48, .aload_n 0, 49, 0, .null), (49, .getfield 10, 52, 0, .null), (52, .iload_n 1, 53, 0, .null), (53, .invokevirtual 89, 56, 0, .null), (56, .ireturn, 57, 0, .null)]
set_option maxRecDepth 100000 in
theorem ok_TA_addTransition_0 : r_TA_addTransition_0.all (am_okRowb "TraceAligner" prog_1_method_3_code am_big) = true := by decide +kernel
def r_TA_addTransition : List am_Row := r_TA_addTransition_0
def E_TA_addTransition : am_E := (am_G0, (F_TA, N_TA, C_TA), m_TA_addTransition, r_TA_addTransition)
theorem e_TA_addTransition : am_okE E_TA_addTransition := ⟨am_big_good, okT_TA, am_okRow_of ok_TA_addTransition_0⟩
set_option maxRecDepth 100000 in
def r_TA_link_0 : List am_Row := [(0, .aload_n 0, 1, 0, .null), (1, .iload_n 1, 2, 0, .null), (2, .invokevirtual 93, 5, 0, .null), (5, .aload_n 0, 6, 0, .null), (6, .iload_n 2, 7, 0, .null), (7, .invokevirtual 97, 10, 0, .null), (10, .aload_n 0, 11, 0, .null), (11, .invokevirtual 68, 14, 0, .null), (14, .iload_n 3, 15, 0, .null), (15, .ifCond .eq 13, 18, 28, .null), (18, .aload_n 0, 19, 0, .null), (19, .getfield 10, 22, 0, .null), (22, .getfield 100, 25, 0, .null), (25, .goto 10, 28, 35, .null), (28, .aload_n 0, 29, 0, .null), (29, .getfield 10, 32, 0, .null), (32, .getfield 103, 35, 0, .null), (35, .astore 5, 37, 0, .null), (37, .aload 5, 39, 0, .null), (39, .iload_n 1, 40, 0, .null), (40, .iaload, 41, 0, .null), (41, .iload_n 2, 42, 0, .null), (42, .invokestatic 106, 45, 0, .null), (45, .istore 6, 47, 0, .null), (47, .aload 5, 49, 0, .null), (49, .iload_n 1, 50, 0, .null), (50, .iload 4, 52, 0, .null), (52, .ifCond .eq 14, 55, 66, .null), (55, .aload 5, 57, 0, .null), (57, .iload_n 1, 58, 0, .null), (58, .iaload, 59, 0, .null), (59, .iconst 1, 60, 0, .int (nI 1)), (60, .iload_n 2, 61, 0, .null), (61, .ishl, 62, 0, .null), (62, .ior, 63, 0, .null), (63, .goto 13, 66, 76, .null), (66, .aload 5, 68, 0, .null), (68, .iload_n 1, 69, 0, .null), (69, .iaload, 70, 0, .null), (70, .iconst 1, 71, 0, .int (nI 1))]
set_option maxRecDepth 100000 in
theorem ok_TA_link_0 : r_TA_link_0.all (am_okRowb "TraceAligner" prog_1_method_4_code am_big) = true := by decide +kernel
set_option maxRecDepth 100000 in
def r_TA_link_1 : List am_Row := [(71, .iload_n 2, 72, 0, .null), (72, .ishl, 73, 0, .null), (73, .iconst (-1), 74, 0, .int (-1)), (74, .ixor, 75, 0, .null), (75, .iand, 76, 0, .null), (76, .iastore, 77, 0, .null), (77, .iload 6, 79, 0, .null), (79, .ireturn, 80, 0, .null)]
set_option maxRecDepth 100000 in
theorem ok_TA_link_1 : r_TA_link_1.all (am_okRowb "TraceAligner" prog_1_method_4_code am_big) = true := by decide +kernel
def r_TA_link : List am_Row := r_TA_link_0 ++ (r_TA_link_1)
def E_TA_link : am_E := (am_G0, (F_TA, N_TA, C_TA), m_TA_link, r_TA_link)
theorem e_TA_link : am_okE E_TA_link := ⟨am_big_good, okT_TA, am_okRow_of (am_all_app ok_TA_link_0 ok_TA_link_1)⟩
set_option maxRecDepth 100000 in
def r_TA_setTokens_0 : List am_Row := [(0, .aload_n 0, 1, 0, .null), (1, .iload_n 1, 2, 0, .null), (2, .invokevirtual 97, 5, 0, .null), (5, .iload_n 2, 6, 0, .null), (6, .ifCond .lt 8, 9, 14, .null), (9, .iload_n 2, 10, 0, .null), (10, .iconst 3, 11, 0, .int (nI 3)), (11, .if_icmp .le 13, 14, 24, .null), (14, .new 79, 17, 0, .null), (17, .dup, 18, 0, .null), (18, .ldc 110, 20, 0, .null), (20, .invokespecial 83, 23, 0, .null), (23, .athrow, 24, 0, .null), (24, .aload_n 0, 25, 0, .null), (25, .invokevirtual 68, 28, 0, .null), (28, .iload_n 3, 29, 0, .null), (29, .ifCond .eq 13, 32, 42, .null), (32, .aload_n 0, 33, 0, .null), (33, .getfield 10, 36, 0, .null), (36, .getfield 112, 39, 0, .null), (39, .goto 10, 42, 49, .null), (42, .aload_n 0, 43, 0, .null), (43, .getfield 10, 46, 0, .null), (46, .getfield 115, 49, 0, .null), (49, .astore 4, 51, 0, .null), (51, .aload 4, 53, 0, .null), (53, .iload_n 1, 54, 0, .null), (54, .iaload, 55, 0, .null), (55, .istore 5, 57, 0, .null), (57, .aload 4, 59, 0, .null), (59, .iload_n 1, 60, 0, .null), (60, .iload_n 2, 61, 0, .null), (61, .iastore, 62, 0, .null), (62, .iload 5, 64, 0, .null), (64, .ireturn, 65, 0, .null)]
set_option maxRecDepth 100000 in
theorem ok_TA_setTokens_0 : r_TA_setTokens_0.all (am_okRowb "TraceAligner" prog_1_method_5_code am_big) = true := by decide +kernel
def r_TA_setTokens : List am_Row := r_TA_setTokens_0
def E_TA_setTokens : am_E := (am_G0, (F_TA, N_TA, C_TA), m_TA_setTokens, r_TA_setTokens)
theorem e_TA_setTokens : am_okE E_TA_setTokens := ⟨am_big_good, okT_TA, am_okRow_of ok_TA_setTokens_0⟩
set_option maxRecDepth 100000 in
def r_TA_count_0 : List am_Row := [(0, .iload_n 1, 1, 0, .null), (28, .aload_n 0, 29, 0, .null), (29, .getfield 10, 32, 0, .null), (32, .getfield 57, 35, 0, .null), (35, .ireturn, 36, 0, .null), (36, .aload_n 0, 37, 0, .null), (37, .getfield 10, 40, 0, .null), (40, .getfield 84, 43, 0, .null), (43, .ireturn, 44, 0, .null), (44, .aload_n 0, 45, 0, .null), (45, .getfield 118, 48, 0, .null), (48, .ireturn, 49, 0, .null), (49, .new 121, 52, 0, .null), (52, .dup, 53, 0, .null), (53, .ldc 123, 55, 0, .null), (55, .invokespecial 125, 58, 0, .null), (58, .athrow, 59, 0, .null)]
set_option maxRecDepth 100000 in
theorem ok_TA_count_0 : r_TA_count_0.all (am_okRowb "TraceAligner" prog_1_method_6_code am_big) = true := by decide +kernel
def r_TA_count : List am_Row := r_TA_count_0
def E_TA_count : am_E := (am_G0, (F_TA, N_TA, C_TA), m_TA_count, r_TA_count)
theorem e_TA_count : am_okE E_TA_count := ⟨am_big_good, okT_TA, am_okRow_of ok_TA_count_0⟩
set_option maxRecDepth 100000 in
def r_TA_label_0 : List am_Row := [(0, .aload_n 0, 1, 0, .null), (1, .iload_n 1, 2, 0, .null), (2, .invokevirtual 93, 5, 0, .null), (5, .aload_n 0, 6, 0, .null), (6, .getfield 10, 9, 0, .null), (9, .getfield 126, 12, 0, .null), (12, .iload_n 1, 13, 0, .null), (13, .iaload, 14, 0, .null), (14, .ireturn, 15, 0, .null)]
set_option maxRecDepth 100000 in
theorem ok_TA_label_0 : r_TA_label_0.all (am_okRowb "TraceAligner" prog_1_method_7_code am_big) = true := by decide +kernel
def r_TA_label : List am_Row := r_TA_label_0
def E_TA_label : am_E := (am_G0, (F_TA, N_TA, C_TA), m_TA_label, r_TA_label)
theorem e_TA_label : am_okE E_TA_label := ⟨am_big_good, okT_TA, am_okRow_of ok_TA_label_0⟩
set_option maxRecDepth 100000 in
def r_TA_markings_0 : List am_Row := [(0, .aload_n 0, 1, 0, .null), (1, .getfield 21, 4, 0, .null), (4, .invokevirtual 129, 7, 0, .null), (7, .aload_n 0, 8, 0, .null), (8, .getfield 21, 11, 0, .null), (11, .getfield 132, 14, 0, .null), (14, .ireturn, 15, 0, .null)]
set_option maxRecDepth 100000 in
theorem ok_TA_markings_0 : r_TA_markings_0.all (am_okRowb "TraceAligner" prog_1_method_8_code am_big) = true := by decide +kernel
def r_TA_markings : List am_Row := r_TA_markings_0
def E_TA_markings : am_E := (am_G0, (F_TA, N_TA, C_TA), m_TA_markings, r_TA_markings)
theorem e_TA_markings : am_okE E_TA_markings := ⟨am_big_good, okT_TA, am_okRow_of ok_TA_markings_0⟩
set_option maxRecDepth 100000 in
def r_TA_tokens_0 : List am_Row := [(0, .aload_n 0, 1, 0, .null), (1, .invokevirtual 135, 4, 0, .null), (4, .aload_n 0, 5, 0, .null), (5, .iload_n 1, 6, 0, .null), (6, .invokevirtual 138, 9, 0, .null), (9, .aload_n 0, 10, 0, .null), (10, .iload_n 2, 11, 0, .null), (11, .invokevirtual 97, 14, 0, .null), (14, .aload_n 0, 15, 0, .null), (15, .getfield 21, 18, 0, .null), (18, .getfield 141, 21, 0, .null), (21, .iload_n 1, 22, 0, .null), (22, .iaload, 23, 0, .null), (23, .iload_n 2, 24, 0, .null), (24, .invokestatic 144, 27, 0, .null), (27, .ireturn, 28, 0, .null)]
set_option maxRecDepth 100000 in
theorem ok_TA_tokens_0 : r_TA_tokens_0.all (am_okRowb "TraceAligner" prog_1_method_9_code am_big) = true := by decide +kernel
def r_TA_tokens : List am_Row := r_TA_tokens_0
def E_TA_tokens : am_E := (am_G0, (F_TA, N_TA, C_TA), m_TA_tokens, r_TA_tokens)
theorem e_TA_tokens : am_okE E_TA_tokens := ⟨am_big_good, okT_TA, am_okRow_of ok_TA_tokens_0⟩
set_option maxRecDepth 100000 in
def r_TA_enabled_0 : List am_Row := [(0, .aload_n 0, 1, 0, .null), (1, .invokevirtual 135, 4, 0, .null), (4, .aload_n 0, 5, 0, .null), (5, .iload_n 1, 6, 0, .null), (6, .invokevirtual 138, 9, 0, .null), (9, .aload_n 0, 10, 0, .null), (10, .getfield 21, 13, 0, .null), (13, .getfield 148, 16, 0, .null), (16, .iload_n 1, 17, 0, .null), (17, .iaload, 18, 0, .null), (18, .ireturn, 19, 0, .null)]
set_option maxRecDepth 100000 in
theorem ok_TA_enabled_0 : r_TA_enabled_0.all (am_okRowb "TraceAligner" prog_1_method_10_code am_big) = true := by decide +kernel
def r_TA_enabled : List am_Row := r_TA_enabled_0
def E_TA_enabled : am_E := (am_G0, (F_TA, N_TA, C_TA), m_TA_enabled, r_TA_enabled)
theorem e_TA_enabled : am_okE E_TA_enabled := ⟨am_big_good, okT_TA, am_okRow_of ok_TA_enabled_0⟩
set_option maxRecDepth 100000 in
def r_TA_next_0 : List am_Row := [(0, .aload_n 0, 1, 0, .null), (1, .invokevirtual 135, 4, 0, .null), (4, .aload_n 0, 5, 0, .null), (5, .iload_n 1, 6, 0, .null), (6, .invokevirtual 138, 9, 0, .null), (9, .aload_n 0, 10, 0, .null), (10, .iload_n 2, 11, 0, .null), (11, .invokevirtual 93, 14, 0, .null), (14, .aload_n 0, 15, 0, .null), (15, .getfield 21, 18, 0, .null), (18, .iload_n 1, 19, 0, .null), (19, .iload_n 2, 20, 0, .null), (20, .invokevirtual 151, 23, 0, .null), (23, .ireturn, 24, 0, .null)]
set_option maxRecDepth 100000 in
theorem ok_TA_next_0 : r_TA_next_0.all (am_okRowb "TraceAligner" prog_1_method_11_code am_big) = true := by decide +kernel
def r_TA_next : List am_Row := r_TA_next_0
def E_TA_next : am_E := (am_G0, (F_TA, N_TA, C_TA), m_TA_next, r_TA_next)
theorem e_TA_next : am_okE E_TA_next := ⟨am_big_good, okT_TA, am_okRow_of ok_TA_next_0⟩
set_option maxRecDepth 100000 in
def r_TA_last_0 : List am_Row := [(0, .aload_n 0, 1, 0, .null), (1, .invokevirtual 135, 4, 0, .null), (4, .aload_n 0, 5, 0, .null), (5, .getfield 21, 8, 0, .null), (8, .getfield 154, 11, 0, .null), (11, .ireturn, 12, 0, .null)]
set_option maxRecDepth 100000 in
theorem ok_TA_last_0 : r_TA_last_0.all (am_okRowb "TraceAligner" prog_1_method_12_code am_big) = true := by decide +kernel
def r_TA_last : List am_Row := r_TA_last_0
def E_TA_last : am_E := (am_G0, (F_TA, N_TA, C_TA), m_TA_last, r_TA_last)
theorem e_TA_last : am_okE E_TA_last := ⟨am_big_good, okT_TA, am_okRow_of ok_TA_last_0⟩
set_option maxRecDepth 100000 in
def r_TA_dead_0 : List am_Row := [(0, .aload_n 0, 1, 0, .null), (1, .invokevirtual 135, 4, 0, .null), (4, .iconst 0, 5, 0, .int (nI 0)), (5, .istore_n 1, 6, 0, .null), (6, .iconst 0, 7, 0, .int (nI 0)), (7, .istore_n 2, 8, 0, .null), (8, .iload_n 2, 9, 0, .null), (9, .aload_n 0, 10, 0, .null), (10, .getfield 21, 13, 0, .null), (13, .getfield 132, 16, 0, .null), (16, .if_icmp .ge 35, 19, 51, .null), (19, .iload_n 2, 20, 0, .null), (20, .aload_n 0, 21, 0, .null), (21, .getfield 21, 24, 0, .null), (24, .getfield 154, 27, 0, .null), (27, .if_icmp .eq 18, 30, 45, .null), (30, .aload_n 0, 31, 0, .null), (31, .getfield 21, 34, 0, .null), (34, .getfield 148, 37, 0, .null), (37, .iload_n 2, 38, 0, .null), (38, .iaload, 39, 0, .null), (39, .ifCond .ne 6, 42, 45, .null), (42, .iinc 1 1, 45, 0, .int (nI 1)), (45, .iinc 2 1, 48, 0, .int (nI 1)), (48, .goto (-40), 51, 8, .null), (51, .iload_n 1, 52, 0, .null), (52, .ireturn, 53, 0, .null)]
set_option maxRecDepth 100000 in
theorem ok_TA_dead_0 : r_TA_dead_0.all (am_okRowb "TraceAligner" prog_1_method_13_code am_big) = true := by decide +kernel
def r_TA_dead : List am_Row := r_TA_dead_0
def E_TA_dead : am_E := (am_G0, (F_TA, N_TA, C_TA), m_TA_dead, r_TA_dead)
theorem e_TA_dead : am_okE E_TA_dead := ⟨am_big_good, okT_TA, am_okRow_of ok_TA_dead_0⟩
set_option maxRecDepth 100000 in
def r_TA_live_0 : List am_Row := [(0, .aload_n 0, 1, 0, .null), (1, .invokevirtual 135, 4, 0, .null), (4, .iconst 0, 5, 0, .int (nI 0)), (5, .istore_n 1, 6, 0, .null), (6, .iconst 0, 7, 0, .int (nI 0)), (7, .istore_n 2, 8, 0, .null), (8, .iload_n 2, 9, 0, .null), (9, .aload_n 0, 10, 0, .null), (10, .getfield 21, 13, 0, .null), (13, .getfield 132, 16, 0, .null), (16, .if_icmp .ge 21, 19, 37, .null), (19, .iload_n 1, 20, 0, .null), (20, .aload_n 0, 21, 0, .null), (21, .getfield 21, 24, 0, .null), (24, .getfield 148, 27, 0, .null), (27, .iload_n 2, 28, 0, .null), (28, .iaload, 29, 0, .null), (29, .ior, 30, 0, .null), (30, .istore_n 1, 31, 0, .null), (31, .iinc 2 1, 34, 0, .int (nI 1)), (34, .goto (-26), 37, 8, .null), (37, .iload_n 1, 38, 0, .null), (38, .ireturn, 39, 0, .null)]
set_option maxRecDepth 100000 in
theorem ok_TA_live_0 : r_TA_live_0.all (am_okRowb "TraceAligner" prog_1_method_14_code am_big) = true := by decide +kernel
def r_TA_live : List am_Row := r_TA_live_0
def E_TA_live : am_E := (am_G0, (F_TA, N_TA, C_TA), m_TA_live, r_TA_live)
theorem e_TA_live : am_okE E_TA_live := ⟨am_big_good, okT_TA, am_okRow_of ok_TA_live_0⟩
set_option maxRecDepth 100000 in
def r_TA_away_0 : List am_Row := [(0, .aload_n 0, 1, 0, .null), (1, .invokevirtual 135, 4, 0, .null), (4, .aload_n 0, 5, 0, .null), (5, .iload_n 1, 6, 0, .null), (6, .invokevirtual 138, 9, 0, .null), (9, .aload_n 0, 10, 0, .null), (10, .getfield 40, 13, 0, .null), (13, .iload_n 1, 14, 0, .null), (14, .invokevirtual 157, 17, 0, .null), (17, .ireturn, 18, 0, .null)]
set_option maxRecDepth 100000 in
theorem ok_TA_away_0 : r_TA_away_0.all (am_okRowb "TraceAligner" prog_1_method_15_code am_big) = true := by decide +kernel
def r_TA_away : List am_Row := r_TA_away_0
def E_TA_away : am_E := (am_G0, (F_TA, N_TA, C_TA), m_TA_away, r_TA_away)
theorem e_TA_away : am_okE E_TA_away := ⟨am_big_good, okT_TA, am_okRow_of ok_TA_away_0⟩
set_option maxRecDepth 100000 in
def r_TA_event_0 : List am_Row := [(0, .iload_n 1, 1, 0, .null), (1, .invokestatic 75, 4, 0, .null), (4, .ifCond .eq 13, 7, 17, .null), (7, .new 79, 10, 0, .null), (10, .dup, 11, 0, .null), (11, .ldc 160, 13, 0, .null), (13, .invokespecial 83, 16, 0, .null), (16, .athrow, 17, 0, .null), (17, .aload_n 0, 18, 0, .null), (18, .getfield 162, 21, 0, .null), (21, .bipush 8, 23, 0, .int (nI 8)), (23, .if_icmp .lt 13, 26, 36, .null), (26, .new 61, 29, 0, .null), (29, .dup, 30, 0, .null), (30, .ldc 165, 32, 0, .null), (32, .invokespecial 65, 35, 0, .null), (35, .athrow, 36, 0, .null), (36, .aload_n 0, 37, 0, .null), (37, .getfield 44, 40, 0, .null), (40, .aload_n 0, 41, 0, .null), (41, .getfield 162, 44, 0, .null), (44, .iload_n 1, 45, 0, .null), (45, .iastore, 46, 0, .null), (46, .aload_n 0, 47, 0, .null), (47, .dup, 48, 0, .null), (48, .getfield 162, 51, 0, .null), (51, .iconst 1, 52, 0, .int (nI 1)), (52, .iadd, 53, 0, .null), (53, .putfield 162, 56, 0, .null), (56, .aload_n 0, 57, 0, .null), (57, .getfield 162, 60, 0, .null), (60, .ireturn, 61, 0, .null)]
set_option maxRecDepth 100000 in
theorem ok_TA_event_0 : r_TA_event_0.all (am_okRowb "TraceAligner" prog_1_method_16_code am_big) = true := by decide +kernel
def r_TA_event : List am_Row := r_TA_event_0
def E_TA_event : am_E := (am_G0, (F_TA, N_TA, C_TA), m_TA_event, r_TA_event)
theorem e_TA_event : am_okE E_TA_event := ⟨am_big_good, okT_TA, am_okRow_of ok_TA_event_0⟩
set_option maxRecDepth 100000 in
def r_TA_store_0 : List am_Row := [(0, .iload_n 1, 1, 0, .null), (1, .ifCond .lt 9, 4, 10, .null), (4, .iload_n 1, 5, 0, .null), (5, .bipush 99, 7, 0, .int (nI 99)), (7, .if_icmp .le 13, 10, 20, .null), (10, .new 79, 13, 0, .null), (13, .dup, 14, 0, .null), (14, .ldc 167, 16, 0, .null), (16, .invokespecial 83, 19, 0, .null), (19, .athrow, 20, 0, .null), (20, .aload_n 0, 21, 0, .null), (21, .getfield 118, 24, 0, .null), (24, .bipush 8, 26, 0, .int (nI 8)), (26, .if_icmp .lt 13, 29, 39, .null), (29, .new 61, 32, 0, .null), (32, .dup, 33, 0, .null), (33, .ldc 169, 35, 0, .null), (35, .invokespecial 65, 38, 0, .null), (38, .athrow, 39, 0, .null), (39, .aload_n 0, 40, 0, .null), (40, .getfield 49, 43, 0, .null), (43, .aload_n 0, 44, 0, .null), (44, .getfield 118, 47, 0, .null), (47, .aaload, 48, 0, .null), (48, .aload_n 0, 49, 0, .null), (49, .getfield 44, 52, 0, .null), (52, .aload_n 0, 53, 0, .null), (53, .getfield 162, 56, 0, .null), (56, .iload_n 1, 57, 0, .null), (57, .invokevirtual 171, 60, 0, .null), (60, .aload_n 0, 61, 0, .null), (61, .iconst 0, 62, 0, .int (nI 0)), (62, .putfield 162, 65, 0, .null), (65, .aload_n 0, 66, 0, .null), (66, .dup, 67, 0, .null), (67, .getfield 118, 70, 0, .null), (70, .iconst 1, 71, 0, .int (nI 1)), (71, .iadd, 72, 0, .null), (72, .putfield 118, 75, 0, .null), (75, .aload_n 0, 76, 0, .null)]
set_option maxRecDepth 100000 in
theorem ok_TA_store_0 : r_TA_store_0.all (am_okRowb "TraceAligner" prog_1_method_17_code am_big) = true := by decide +kernel
set_option maxRecDepth 100000 in
def r_TA_store_1 : List am_Row := [(76, .getfield 118, 79, 0, .null), (79, .iconst 1, 80, 0, .int (nI 1)), (80, .isub, 81, 0, .null), (81, .ireturn, 82, 0, .null)]
set_option maxRecDepth 100000 in
theorem ok_TA_store_1 : r_TA_store_1.all (am_okRowb "TraceAligner" prog_1_method_17_code am_big) = true := by decide +kernel
def r_TA_store : List am_Row := r_TA_store_0 ++ (r_TA_store_1)
def E_TA_store : am_E := (am_G0, (F_TA, N_TA, C_TA), m_TA_store, r_TA_store)
theorem e_TA_store : am_okE E_TA_store := ⟨am_big_good, okT_TA, am_okRow_of (am_all_app ok_TA_store_0 ok_TA_store_1)⟩
set_option maxRecDepth 100000 in
def r_TA_dropTrace_0 : List am_Row := [(0, .aload_n 0, 1, 0, .null), (1, .getfield 118, 4, 0, .null), (4, .ifCond .ne 13, 7, 17, .null), (7, .new 61, 10, 0, .null), (10, .dup, 11, 0, .null), (11, .ldc 175, 13, 0, .null), (13, .invokespecial 65, 16, 0, .null), (16, .athrow, 17, 0, .null), (17, .aload_n 0, 18, 0, .null), (18, .dup, 19, 0, .null), (19, .getfield 118, 22, 0, .null), (22, .iconst 1, 23, 0, .int (nI 1)), (23, .isub, 24, 0, .null), (24, .putfield 118, 27, 0, .null), (27, .aload_n 0, 28, 0, .null), (28, .getfield 118, 31, 0, .null), (31, .ireturn, 32, 0, .null)]
set_option maxRecDepth 100000 in
theorem ok_TA_dropTrace_0 : r_TA_dropTrace_0.all (am_okRowb "TraceAligner" prog_1_method_18_code am_big) = true := by decide +kernel
def r_TA_dropTrace : List am_Row := r_TA_dropTrace_0
def E_TA_dropTrace : am_E := (am_G0, (F_TA, N_TA, C_TA), m_TA_dropTrace, r_TA_dropTrace)
theorem e_TA_dropTrace : am_okE E_TA_dropTrace := ⟨am_big_good, okT_TA, am_okRow_of ok_TA_dropTrace_0⟩
set_option maxRecDepth 100000 in
def r_TA_length_0 : List am_Row := [(0, .aload_n 0, 1, 0, .null), (1, .iload_n 1, 2, 0, .null), (2, .invokevirtual 177, 5, 0, .null), (5, .aload_n 0, 6, 0, .null), (6, .getfield 49, 9, 0, .null), (9, .iload_n 1, 10, 0, .null), (10, .aaload, 11, 0, .null), (11, .getfield 180, 14, 0, .null), (14, .ireturn, 15, 0, .null)]
set_option maxRecDepth 100000 in
theorem ok_TA_length_0 : r_TA_length_0.all (am_okRowb "TraceAligner" prog_1_method_19_code am_big) = true := by decide +kernel
def r_TA_length : List am_Row := r_TA_length_0
def E_TA_length : am_E := (am_G0, (F_TA, N_TA, C_TA), m_TA_length, r_TA_length)
theorem e_TA_length : am_okE E_TA_length := ⟨am_big_good, okT_TA, am_okRow_of ok_TA_length_0⟩
set_option maxRecDepth 100000 in
def r_TA_setLabelCost_0 : List am_Row := [(0, .iload_n 1, 1, 0, .null), (1, .invokestatic 75, 4, 0, .null), (4, .ifCond .eq 13, 7, 17, .null), (7, .new 121, 10, 0, .null), (10, .dup, 11, 0, .null), (11, .ldc 181, 13, 0, .null), (13, .invokespecial 125, 16, 0, .null), (16, .athrow, 17, 0, .null), (17, .iload_n 2, 18, 0, .null), (18, .invokestatic 183, 21, 0, .null), (21, .aload_n 0, 22, 0, .null), (22, .invokevirtual 186, 25, 0, .null), (25, .aload_n 0, 26, 0, .null), (26, .getfield 25, 29, 0, .null), (29, .iload_n 1, 30, 0, .null), (30, .iaload, 31, 0, .null), (31, .istore_n 3, 32, 0, .null), (32, .aload_n 0, 33, 0, .null), (33, .getfield 25, 36, 0, .null), (36, .iload_n 1, 37, 0, .null), (37, .iload_n 2, 38, 0, .null), (38, .iastore, 39, 0, .null), (39, .iload_n 3, 40, 0, .null), (40, .ireturn, 41, 0, .null)]
set_option maxRecDepth 100000 in
theorem ok_TA_setLabelCost_0 : r_TA_setLabelCost_0.all (am_okRowb "TraceAligner" prog_1_method_20_code am_big) = true := by decide +kernel
def r_TA_setLabelCost : List am_Row := r_TA_setLabelCost_0
def E_TA_setLabelCost : am_E := (am_G0, (F_TA, N_TA, C_TA), m_TA_setLabelCost, r_TA_setLabelCost)
theorem e_TA_setLabelCost : am_okE E_TA_setLabelCost := ⟨am_big_good, okT_TA, am_okRow_of ok_TA_setLabelCost_0⟩
set_option maxRecDepth 100000 in
def r_TA_setCost_0 : List am_Row := [(0, .aload_n 0, 1, 0, .null), (1, .iload_n 1, 2, 0, .null), (2, .invokevirtual 93, 5, 0, .null), (5, .iload_n 2, 6, 0, .null), (6, .invokestatic 183, 9, 0, .null), (9, .aload_n 0, 10, 0, .null), (10, .invokevirtual 186, 13, 0, .null), (13, .aload_n 0, 14, 0, .null), (14, .getfield 10, 17, 0, .null), (17, .getfield 189, 20, 0, .null), (20, .iload_n 1, 21, 0, .null), (21, .iaload, 22, 0, .null), (22, .istore_n 3, 23, 0, .null), (23, .aload_n 0, 24, 0, .null), (24, .getfield 10, 27, 0, .null), (27, .getfield 189, 30, 0, .null), (30, .iload_n 1, 31, 0, .null), (31, .iload_n 2, 32, 0, .null), (32, .iastore, 33, 0, .null), (33, .iload_n 3, 34, 0, .null), (34, .ireturn, 35, 0, .null)]
set_option maxRecDepth 100000 in
theorem ok_TA_setCost_0 : r_TA_setCost_0.all (am_okRowb "TraceAligner" prog_1_method_21_code am_big) = true := by decide +kernel
def r_TA_setCost : List am_Row := r_TA_setCost_0
def E_TA_setCost : am_E := (am_G0, (F_TA, N_TA, C_TA), m_TA_setCost, r_TA_setCost)
theorem e_TA_setCost : am_okE E_TA_setCost := ⟨am_big_good, okT_TA, am_okRow_of ok_TA_setCost_0⟩
set_option maxRecDepth 100000 in
def r_TA_cost_0 : List am_Row := [(0, .aload_n 0, 1, 0, .null), (1, .iload_n 1, 2, 0, .null), (2, .invokevirtual 192, 5, 0, .null), (5, .getfield 196, 8, 0, .null), (8, .ireturn, 9, 0, .null)]
set_option maxRecDepth 100000 in
theorem ok_TA_cost_0 : r_TA_cost_0.all (am_okRowb "TraceAligner" prog_1_method_22_code am_big) = true := by decide +kernel
def r_TA_cost : List am_Row := r_TA_cost_0
def E_TA_cost : am_E := (am_G0, (F_TA, N_TA, C_TA), m_TA_cost, r_TA_cost)
theorem e_TA_cost : am_okE E_TA_cost := ⟨am_big_good, okT_TA, am_okRow_of ok_TA_cost_0⟩
set_option maxRecDepth 100000 in
def r_TA_moves_0 : List am_Row := [(0, .aload_n 0, 1, 0, .null), (1, .iload_n 1, 2, 0, .null), (2, .invokevirtual 192, 5, 0, .null), (5, .getfield 199, 8, 0, .null), (8, .ireturn, 9, 0, .null)]
set_option maxRecDepth 100000 in
theorem ok_TA_moves_0 : r_TA_moves_0.all (am_okRowb "TraceAligner" prog_1_method_23_code am_big) = true := by decide +kernel
def r_TA_moves : List am_Row := r_TA_moves_0
def E_TA_moves : am_E := (am_G0, (F_TA, N_TA, C_TA), m_TA_moves, r_TA_moves)
theorem e_TA_moves : am_okE E_TA_moves := ⟨am_big_good, okT_TA, am_okRow_of ok_TA_moves_0⟩
set_option maxRecDepth 100000 in
def r_TA_move_0 : List am_Row := [(0, .aload_n 0, 1, 0, .null), (1, .iload_n 1, 2, 0, .null), (2, .invokevirtual 192, 5, 0, .null), (5, .astore 4, 7, 0, .null), (7, .iload_n 2, 8, 0, .null), (8, .ifCond .lt 12, 11, 20, .null), (11, .iload_n 2, 12, 0, .null), (12, .aload 4, 14, 0, .null), (14, .getfield 199, 17, 0, .null), (17, .if_icmp .lt 13, 20, 30, .null), (20, .new 79, 23, 0, .null), (23, .dup, 24, 0, .null), (24, .ldc 202, 26, 0, .null), (26, .invokespecial 83, 29, 0, .null), (29, .athrow, 30, 0, .null), (30, .aload 4, 32, 0, .null), (32, .getfield 204, 35, 0, .null), (35, .iload_n 2, 36, 0, .null), (36, .iaload, 37, 0, .null), (37, .istore 5, 39, 0, .null), (39, .iload_n 3, 40, 0, .null), (72, .iload 5, 74, 0, .null), (74, .invokestatic 207, 77, 0, .null), (77, .ireturn, 78, 0, .null), (78, .iload 5, 80, 0, .null), (80, .invokestatic 210, 83, 0, .null), (83, .ireturn, 84, 0, .null), (84, .iload 5, 86, 0, .null), (86, .invokestatic 213, 89, 0, .null), (89, .ireturn, 90, 0, .null), (90, .iload 5, 92, 0, .null), (92, .invokestatic 216, 95, 0, .null), (95, .ireturn, 96, 0, .null), (96, .new 79, 99, 0, .null), (99, .dup, 100, 0, .null), (100, .ldc 219, 102, 0, .null), (102, .invokespecial 83, 105, 0, .null), (105, .athrow, 106, 0, .null)]
set_option maxRecDepth 100000 in
theorem ok_TA_move_0 : r_TA_move_0.all (am_okRowb "TraceAligner" prog_1_method_24_code am_big) = true := by decide +kernel
def r_TA_move : List am_Row := r_TA_move_0
def E_TA_move : am_E := (am_G0, (F_TA, N_TA, C_TA), m_TA_move, r_TA_move)
theorem e_TA_move : am_okE E_TA_move := ⟨am_big_good, okT_TA, am_okRow_of ok_TA_move_0⟩
set_option maxRecDepth 100000 in
def r_TA_worst_0 : List am_Row := [(0, .aload_n 0, 1, 0, .null), (1, .iload_n 1, 2, 0, .null), (2, .invokevirtual 192, 5, 0, .null), (5, .getfield 221, 8, 0, .null), (8, .ireturn, 9, 0, .null)]
set_option maxRecDepth 100000 in
theorem ok_TA_worst_0 : r_TA_worst_0.all (am_okRowb "TraceAligner" prog_1_method_25_code am_big) = true := by decide +kernel
def r_TA_worst : List am_Row := r_TA_worst_0
def E_TA_worst : am_E := (am_G0, (F_TA, N_TA, C_TA), m_TA_worst, r_TA_worst)
theorem e_TA_worst : am_okE E_TA_worst := ⟨am_big_good, okT_TA, am_okRow_of ok_TA_worst_0⟩
set_option maxRecDepth 100000 in
def r_TA_fitness_0 : List am_Row := [(0, .aload_n 0, 1, 0, .null), (1, .iload_n 1, 2, 0, .null), (2, .invokevirtual 192, 5, 0, .null), (5, .astore_n 2, 6, 0, .null), (6, .aload_n 2, 7, 0, .null), (7, .invokevirtual 224, 10, 0, .null), (10, .ifCond .eq 5, 13, 15, .null), (13, .dconst 0, 14, 0, .double FP.dconst0), (14, .dreturn, 15, 0, .null), (15, .aload_n 2, 16, 0, .null), (16, .getfield 196, 19, 0, .null), (19, .aload_n 2, 20, 0, .null), (20, .getfield 221, 23, 0, .null), (23, .invokestatic 228, 26, 0, .null), (26, .dreturn, 27, 0, .null)]
set_option maxRecDepth 100000 in
theorem ok_TA_fitness_0 : r_TA_fitness_0.all (am_okRowb "TraceAligner" prog_1_method_26_code am_big) = true := by decide +kernel
def r_TA_fitness : List am_Row := r_TA_fitness_0
def E_TA_fitness : am_E := (am_G0, (F_TA, N_TA, C_TA), m_TA_fitness, r_TA_fitness)
theorem e_TA_fitness : am_okE E_TA_fitness := ⟨am_big_good, okT_TA, am_okRow_of ok_TA_fitness_0⟩
set_option maxRecDepth 100000 in
def r_TA_total_0 : List am_Row := [(0, .iload_n 1, 1, 0, .null), (1, .ifCond .lt 8, 4, 9, .null), (4, .iload_n 1, 5, 0, .null), (5, .iconst 2, 6, 0, .int (nI 2)), (6, .if_icmp .le 13, 9, 19, .null), (9, .new 121, 12, 0, .null), (12, .dup, 13, 0, .null), (13, .ldc 232, 15, 0, .null), (15, .invokespecial 125, 18, 0, .null), (18, .athrow, 19, 0, .null), (19, .iload_n 2, 20, 0, .null), (20, .ifCond .lt 24, 23, 44, .null), (23, .iload_n 2, 24, 0, .null), (24, .iload_n 1, 25, 0, .null), (25, .iconst 1, 26, 0, .int (nI 1)), (26, .if_icmp .ne 8, 29, 34, .null), (29, .bipush 6, 31, 0, .int (nI 6)), (31, .goto 10, 34, 41, .null), (34, .aload_n 0, 35, 0, .null), (35, .getfield 10, 38, 0, .null), (38, .getfield 84, 41, 0, .null), (41, .if_icmp .lt 13, 44, 54, .null), (44, .new 121, 47, 0, .null), (47, .dup, 48, 0, .null), (48, .ldc 234, 50, 0, .null), (50, .invokespecial 125, 53, 0, .null), (53, .athrow, 54, 0, .null), (54, .aload_n 0, 55, 0, .null), (55, .invokevirtual 135, 58, 0, .null), (58, .iconst 0, 59, 0, .int (nI 0)), (59, .istore_n 3, 60, 0, .null), (60, .iconst 0, 61, 0, .int (nI 0)), (61, .istore 4, 63, 0, .null), (63, .iload 4, 65, 0, .null), (65, .aload_n 0, 66, 0, .null), (66, .getfield 118, 69, 0, .null), (69, .if_icmp .ge 49, 72, 118, .null), (72, .aload_n 0, 73, 0, .null), (73, .getfield 40, 76, 0, .null), (76, .aload_n 0, 77, 0, .null)]
set_option maxRecDepth 100000 in
theorem ok_TA_total_0 : r_TA_total_0.all (am_okRowb "TraceAligner" prog_1_method_27_code am_big) = true := by decide +kernel
set_option maxRecDepth 100000 in
def r_TA_total_1 : List am_Row := [(77, .getfield 49, 80, 0, .null), (80, .iload 4, 82, 0, .null), (82, .aaload, 83, 0, .null), (83, .invokevirtual 236, 86, 0, .null), (86, .iload_n 3, 87, 0, .null), (87, .aload_n 0, 88, 0, .null), (88, .getfield 49, 91, 0, .null), (91, .iload 4, 93, 0, .null), (93, .aaload, 94, 0, .null), (94, .getfield 240, 97, 0, .null), (97, .aload_n 0, 98, 0, .null), (98, .getfield 49, 101, 0, .null), (101, .iload 4, 103, 0, .null), (103, .aaload, 104, 0, .null), (104, .iload_n 1, 105, 0, .null), (105, .iload_n 2, 106, 0, .null), (106, .invokevirtual 243, 109, 0, .null), (109, .imul, 110, 0, .null), (110, .iadd, 111, 0, .null), (111, .istore_n 3, 112, 0, .null), (112, .iinc 4 1, 115, 0, .int (nI 1)), (115, .goto (-52), 118, 63, .null), (118, .iload_n 3, 119, 0, .null), (119, .ireturn, 120, 0, .null)]
set_option maxRecDepth 100000 in
theorem ok_TA_total_1 : r_TA_total_1.all (am_okRowb "TraceAligner" prog_1_method_27_code am_big) = true := by decide +kernel
def r_TA_total : List am_Row := r_TA_total_0 ++ (r_TA_total_1)
def E_TA_total : am_E := (am_G0, (F_TA, N_TA, C_TA), m_TA_total, r_TA_total)
theorem e_TA_total : am_okE E_TA_total := ⟨am_big_good, okT_TA, am_okRow_of (am_all_app ok_TA_total_0 ok_TA_total_1)⟩
set_option maxRecDepth 100000 in
def r_TA_allFitness_0 : List am_Row := [(0, .aload_n 0, 1, 0, .null), (1, .invokevirtual 135, 4, 0, .null), (4, .iconst 0, 5, 0, .int (nI 0)), (5, .istore_n 1, 6, 0, .null), (6, .iconst 0, 7, 0, .int (nI 0)), (7, .istore_n 2, 8, 0, .null), (8, .iconst 0, 9, 0, .int (nI 0)), (9, .istore_n 3, 10, 0, .null), (10, .iload_n 3, 11, 0, .null), (11, .aload_n 0, 12, 0, .null), (12, .getfield 118, 15, 0, .null), (15, .if_icmp .ge 78, 18, 93, .null), (18, .aload_n 0, 19, 0, .null), (19, .getfield 40, 22, 0, .null), (22, .aload_n 0, 23, 0, .null), (23, .getfield 49, 26, 0, .null), (26, .iload_n 3, 27, 0, .null), (27, .aaload, 28, 0, .null), (28, .invokevirtual 236, 31, 0, .null), (31, .aload_n 0, 32, 0, .null), (32, .getfield 49, 35, 0, .null), (35, .iload_n 3, 36, 0, .null), (36, .aaload, 37, 0, .null), (37, .invokevirtual 224, 40, 0, .null), (40, .ifCond .ne 47, 43, 87, .null), (43, .iload_n 1, 44, 0, .null), (44, .aload_n 0, 45, 0, .null), (45, .getfield 49, 48, 0, .null), (48, .iload_n 3, 49, 0, .null), (49, .aaload, 50, 0, .null), (50, .getfield 240, 53, 0, .null), (53, .aload_n 0, 54, 0, .null), (54, .getfield 49, 57, 0, .null), (57, .iload_n 3, 58, 0, .null), (58, .aaload, 59, 0, .null), (59, .getfield 196, 62, 0, .null), (62, .imul, 63, 0, .null), (63, .iadd, 64, 0, .null), (64, .istore_n 1, 65, 0, .null), (65, .iload_n 2, 66, 0, .null)]
set_option maxRecDepth 100000 in
theorem ok_TA_allFitness_0 : r_TA_allFitness_0.all (am_okRowb "TraceAligner" prog_1_method_28_code am_big) = true := by decide +kernel
set_option maxRecDepth 100000 in
def r_TA_allFitness_1 : List am_Row := [(66, .aload_n 0, 67, 0, .null), (67, .getfield 49, 70, 0, .null), (70, .iload_n 3, 71, 0, .null), (71, .aaload, 72, 0, .null), (72, .getfield 240, 75, 0, .null), (75, .aload_n 0, 76, 0, .null), (76, .getfield 49, 79, 0, .null), (79, .iload_n 3, 80, 0, .null), (80, .aaload, 81, 0, .null), (81, .getfield 221, 84, 0, .null), (84, .imul, 85, 0, .null), (85, .iadd, 86, 0, .null), (86, .istore_n 2, 87, 0, .null), (87, .iinc 3 1, 90, 0, .int (nI 1)), (90, .goto (-80), 93, 10, .null), (93, .iload_n 1, 94, 0, .null), (94, .iload_n 2, 95, 0, .null), (95, .invokestatic 228, 98, 0, .null), (98, .dreturn, 99, 0, .null)]
set_option maxRecDepth 100000 in
theorem ok_TA_allFitness_1 : r_TA_allFitness_1.all (am_okRowb "TraceAligner" prog_1_method_28_code am_big) = true := by decide +kernel
def r_TA_allFitness : List am_Row := r_TA_allFitness_0 ++ (r_TA_allFitness_1)
def E_TA_allFitness : am_E := (am_G0, (F_TA, N_TA, C_TA), m_TA_allFitness, r_TA_allFitness)
theorem e_TA_allFitness : am_okE E_TA_allFitness := ⟨am_big_good, okT_TA, am_okRow_of (am_all_app ok_TA_allFitness_0 ok_TA_allFitness_1)⟩
set_option maxRecDepth 100000 in
def r_TA_precision_0 : List am_Row := [(0, .aload_n 0, 1, 0, .null), (1, .invokevirtual 135, 4, 0, .null), (4, .aload_n 0, 5, 0, .null), (5, .invokevirtual 246, 8, 0, .null), (8, .iconst 0, 9, 0, .int (nI 0)), (9, .istore_n 1, 10, 0, .null), (10, .iconst 0, 11, 0, .int (nI 0)), (11, .istore_n 2, 12, 0, .null), (12, .iconst 0, 13, 0, .int (nI 0)), (13, .istore_n 3, 14, 0, .null), (14, .iload_n 3, 15, 0, .null), (15, .aload_n 0, 16, 0, .null), (16, .getfield 118, 19, 0, .null), (19, .if_icmp .ge 66, 22, 85, .null), (22, .iload_n 1, 23, 0, .null), (23, .aload_n 0, 24, 0, .null), (24, .getfield 49, 27, 0, .null), (27, .iload_n 3, 28, 0, .null), (28, .aaload, 29, 0, .null), (29, .getfield 240, 32, 0, .null), (32, .aload_n 0, 33, 0, .null), (33, .aload_n 0, 34, 0, .null), (34, .getfield 49, 37, 0, .null), (37, .iload_n 3, 38, 0, .null), (38, .aaload, 39, 0, .null), (39, .aload_n 0, 40, 0, .null), (40, .getfield 21, 43, 0, .null), (43, .getfield 148, 46, 0, .null), (46, .invokevirtual 249, 49, 0, .null), (49, .imul, 50, 0, .null), (50, .iadd, 51, 0, .null), (51, .istore_n 1, 52, 0, .null), (52, .iload_n 2, 53, 0, .null), (53, .aload_n 0, 54, 0, .null), (54, .getfield 49, 57, 0, .null), (57, .iload_n 3, 58, 0, .null), (58, .aaload, 59, 0, .null), (59, .getfield 240, 62, 0, .null), (62, .aload_n 0, 63, 0, .null), (63, .aload_n 0, 64, 0, .null)]
set_option maxRecDepth 100000 in
theorem ok_TA_precision_0 : r_TA_precision_0.all (am_okRowb "TraceAligner" prog_1_method_29_code am_big) = true := by decide +kernel
set_option maxRecDepth 100000 in
def r_TA_precision_1 : List am_Row := [(64, .getfield 49, 67, 0, .null), (67, .iload_n 3, 68, 0, .null), (68, .aaload, 69, 0, .null), (69, .aload_n 0, 70, 0, .null), (70, .getfield 54, 73, 0, .null), (73, .invokevirtual 249, 76, 0, .null), (76, .imul, 77, 0, .null), (77, .iadd, 78, 0, .null), (78, .istore_n 2, 79, 0, .null), (79, .iinc 3 1, 82, 0, .int (nI 1)), (82, .goto (-68), 85, 14, .null), (85, .iload_n 1, 86, 0, .null), (86, .ifCond .ne 7, 89, 93, .null), (89, .dconst 1, 90, 0, .double FP.dconst1), (90, .goto 8, 93, 98, .null), (93, .iload_n 2, 94, 0, .null), (94, .i2d, 95, 0, .null), (95, .iload_n 1, 96, 0, .null), (96, .i2d, 97, 0, .null), (97, .ddiv, 98, 0, .null), (98, .dreturn, 99, 0, .null)]
set_option maxRecDepth 100000 in
theorem ok_TA_precision_1 : r_TA_precision_1.all (am_okRowb "TraceAligner" prog_1_method_29_code am_big) = true := by decide +kernel
def r_TA_precision : List am_Row := r_TA_precision_0 ++ (r_TA_precision_1)
def E_TA_precision : am_E := (am_G0, (F_TA, N_TA, C_TA), m_TA_precision, r_TA_precision)
theorem e_TA_precision : am_okE E_TA_precision := ⟨am_big_good, okT_TA, am_okRow_of (am_all_app ok_TA_precision_0 ok_TA_precision_1)⟩
set_option maxRecDepth 100000 in
def r_TA_digest_0 : List am_Row := [(0, .aload_n 0, 1, 0, .null), (1, .ldc2_w 253, 4, 0, .long (181)), (4, .invokevirtual 255, 7, 0, .null), (7, .lstore_n 1, 8, 0, .null), (8, .iconst 0, 9, 0, .int (nI 0)), (9, .istore_n 3, 10, 0, .null), (10, .iload_n 3, 11, 0, .null), (11, .bipush 6, 13, 0, .int (nI 6)), (13, .if_icmp .ge 23, 16, 36, .null), (16, .lload_n 1, 17, 0, .null), (17, .ldc2_w 259, 20, 0, .long (31)), (20, .lmul, 21, 0, .null), (21, .aload_n 0, 22, 0, .null), (22, .getfield 25, 25, 0, .null), (25, .iload_n 3, 26, 0, .null), (26, .iaload, 27, 0, .null), (27, .i2l, 28, 0, .null), (28, .ladd, 29, 0, .null), (29, .lstore_n 1, 30, 0, .null), (30, .iinc 3 1, 33, 0, .int (nI 1)), (33, .goto (-23), 36, 10, .null), (36, .lload_n 1, 37, 0, .null), (37, .ldc2_w 259, 40, 0, .long (31)), (40, .lmul, 41, 0, .null), (41, .aload_n 0, 42, 0, .null), (42, .getfield 162, 45, 0, .null), (45, .i2l, 46, 0, .null), (46, .ladd, 47, 0, .null), (47, .lstore_n 1, 48, 0, .null), (48, .aload_n 0, 49, 0, .null), (49, .lload_n 1, 50, 0, .null), (50, .invokevirtual 261, 53, 0, .null), (53, .lstore_n 1, 54, 0, .null), (54, .aload_n 0, 55, 0, .null), (55, .getfield 21, 58, 0, .null), (58, .invokevirtual 129, 61, 0, .null), (61, .lload_n 1, 62, 0, .null), (62, .ldc2_w 259, 65, 0, .long (31)), (65, .lmul, 66, 0, .null), (66, .aload_n 0, 67, 0, .null)]
set_option maxRecDepth 100000 in
theorem ok_TA_digest_0 : r_TA_digest_0.all (am_okRowb "TraceAligner" prog_1_method_30_code am_big) = true := by decide +kernel
set_option maxRecDepth 100000 in
def r_TA_digest_1 : List am_Row := [(67, .getfield 21, 70, 0, .null), (70, .getfield 132, 73, 0, .null), (73, .i2l, 74, 0, .null), (74, .ladd, 75, 0, .null), (75, .lstore_n 1, 76, 0, .null), (76, .aload_n 0, 77, 0, .null), (77, .getfield 21, 80, 0, .null), (80, .getfield 132, 83, 0, .null), (83, .iconst (-1), 84, 0, .int (-1)), (84, .if_icmp .eq 49, 87, 133, .null), (87, .iconst 0, 88, 0, .int (nI 0)), (88, .istore_n 3, 89, 0, .null), (89, .iload_n 3, 90, 0, .null), (90, .aload_n 0, 91, 0, .null), (91, .getfield 118, 94, 0, .null), (94, .if_icmp .ge 39, 97, 133, .null), (97, .aload_n 0, 98, 0, .null), (98, .getfield 40, 101, 0, .null), (101, .aload_n 0, 102, 0, .null), (102, .getfield 49, 105, 0, .null), (105, .iload_n 3, 106, 0, .null), (106, .aaload, 107, 0, .null), (107, .invokevirtual 236, 110, 0, .null), (110, .lload_n 1, 111, 0, .null), (111, .ldc2_w 259, 114, 0, .long (31)), (114, .lmul, 115, 0, .null), (115, .aload_n 0, 116, 0, .null), (116, .getfield 49, 119, 0, .null), (119, .iload_n 3, 120, 0, .null), (120, .aaload, 121, 0, .null), (121, .getfield 196, 124, 0, .null), (124, .i2l, 125, 0, .null), (125, .ladd, 126, 0, .null), (126, .lstore_n 1, 127, 0, .null), (127, .iinc 3 1, 130, 0, .int (nI 1)), (130, .goto (-41), 133, 89, .null), (133, .lload_n 1, 134, 0, .null), (134, .lreturn, 135, 0, .null)]
set_option maxRecDepth 100000 in
theorem ok_TA_digest_1 : r_TA_digest_1.all (am_okRowb "TraceAligner" prog_1_method_30_code am_big) = true := by decide +kernel
def r_TA_digest : List am_Row := r_TA_digest_0 ++ (r_TA_digest_1)
def E_TA_digest : am_E := (am_G0, (F_TA, N_TA, C_TA), m_TA_digest, r_TA_digest)
theorem e_TA_digest : am_okE E_TA_digest := ⟨am_big_good, okT_TA, am_okRow_of (am_all_app ok_TA_digest_0 ok_TA_digest_1)⟩
set_option maxRecDepth 100000 in
def r_TA_digestOfNet_0 : List am_Row := [(0, .lload_n 1, 1, 0, .null), (1, .ldc2_w 259, 4, 0, .long (31)), (4, .lmul, 5, 0, .null), (5, .aload_n 0, 6, 0, .null), (6, .getfield 10, 9, 0, .null), (9, .getfield 57, 12, 0, .null), (12, .i2l, 13, 0, .null), (13, .ladd, 14, 0, .null), (14, .lstore_n 3, 15, 0, .null), (15, .lload_n 3, 16, 0, .null), (16, .ldc2_w 259, 19, 0, .long (31)), (19, .lmul, 20, 0, .null), (20, .aload_n 0, 21, 0, .null), (21, .getfield 10, 24, 0, .null), (24, .getfield 84, 27, 0, .null), (27, .i2l, 28, 0, .null), (28, .ladd, 29, 0, .null), (29, .lstore_n 3, 30, 0, .null), (30, .iconst 0, 31, 0, .int (nI 0)), (31, .istore 5, 33, 0, .null), (33, .iload 5, 35, 0, .null), (35, .aload_n 0, 36, 0, .null), (36, .getfield 10, 39, 0, .null), (39, .getfield 84, 42, 0, .null), (42, .if_icmp .ge 81, 45, 123, .null), (45, .lload_n 3, 46, 0, .null), (46, .ldc2_w 259, 49, 0, .long (31)), (49, .lmul, 50, 0, .null), (50, .aload_n 0, 51, 0, .null), (51, .getfield 10, 54, 0, .null), (54, .getfield 126, 57, 0, .null), (57, .iload 5, 59, 0, .null), (59, .iaload, 60, 0, .null), (60, .i2l, 61, 0, .null), (61, .ladd, 62, 0, .null), (62, .lstore_n 3, 63, 0, .null), (63, .lload_n 3, 64, 0, .null), (64, .ldc2_w 259, 67, 0, .long (31)), (67, .lmul, 68, 0, .null), (68, .aload_n 0, 69, 0, .null)]
set_option maxRecDepth 100000 in
theorem ok_TA_digestOfNet_0 : r_TA_digestOfNet_0.all (am_okRowb "TraceAligner" prog_1_method_31_code am_big) = true := by decide +kernel
set_option maxRecDepth 100000 in
def r_TA_digestOfNet_1 : List am_Row := [(69, .getfield 10, 72, 0, .null), (72, .getfield 189, 75, 0, .null), (75, .iload 5, 77, 0, .null), (77, .iaload, 78, 0, .null), (78, .i2l, 79, 0, .null), (79, .ladd, 80, 0, .null), (80, .lstore_n 3, 81, 0, .null), (81, .lload_n 3, 82, 0, .null), (82, .ldc2_w 259, 85, 0, .long (31)), (85, .lmul, 86, 0, .null), (86, .aload_n 0, 87, 0, .null), (87, .getfield 10, 90, 0, .null), (90, .getfield 100, 93, 0, .null), (93, .iload 5, 95, 0, .null), (95, .iaload, 96, 0, .null), (96, .i2l, 97, 0, .null), (97, .ladd, 98, 0, .null), (98, .lstore_n 3, 99, 0, .null), (99, .lload_n 3, 100, 0, .null), (100, .ldc2_w 259, 103, 0, .long (31)), (103, .lmul, 104, 0, .null), (104, .aload_n 0, 105, 0, .null), (105, .getfield 10, 108, 0, .null), (108, .getfield 103, 111, 0, .null), (111, .iload 5, 113, 0, .null), (113, .iaload, 114, 0, .null), (114, .i2l, 115, 0, .null), (115, .ladd, 116, 0, .null), (116, .lstore_n 3, 117, 0, .null), (117, .iinc 5 1, 120, 0, .int (nI 1)), (120, .goto (-87), 123, 33, .null), (123, .iconst 0, 124, 0, .int (nI 0)), (124, .istore 5, 126, 0, .null), (126, .iload 5, 128, 0, .null), (128, .aload_n 0, 129, 0, .null), (129, .getfield 10, 132, 0, .null), (132, .getfield 57, 135, 0, .null), (135, .if_icmp .ge 27, 138, 162, .null), (138, .lload_n 3, 139, 0, .null), (139, .ldc2_w 259, 142, 0, .long (31))]
set_option maxRecDepth 100000 in
theorem ok_TA_digestOfNet_1 : r_TA_digestOfNet_1.all (am_okRowb "TraceAligner" prog_1_method_31_code am_big) = true := by decide +kernel
set_option maxRecDepth 100000 in
def r_TA_digestOfNet_2 : List am_Row := [(142, .lmul, 143, 0, .null), (143, .aload_n 0, 144, 0, .null), (144, .getfield 10, 147, 0, .null), (147, .getfield 115, 150, 0, .null), (150, .iload 5, 152, 0, .null), (152, .iaload, 153, 0, .null), (153, .i2l, 154, 0, .null), (154, .ladd, 155, 0, .null), (155, .lstore_n 3, 156, 0, .null), (156, .iinc 5 1, 159, 0, .int (nI 1)), (159, .goto (-33), 162, 126, .null), (162, .iconst 0, 163, 0, .int (nI 0)), (163, .istore 5, 165, 0, .null), (165, .iload 5, 167, 0, .null), (167, .aload_n 0, 168, 0, .null), (168, .getfield 10, 171, 0, .null), (171, .getfield 57, 174, 0, .null), (174, .if_icmp .ge 27, 177, 201, .null), (177, .lload_n 3, 178, 0, .null), (178, .ldc2_w 259, 181, 0, .long (31)), (181, .lmul, 182, 0, .null), (182, .aload_n 0, 183, 0, .null), (183, .getfield 10, 186, 0, .null), (186, .getfield 112, 189, 0, .null), (189, .iload 5, 191, 0, .null), (191, .iaload, 192, 0, .null), (192, .i2l, 193, 0, .null), (193, .ladd, 194, 0, .null), (194, .lstore_n 3, 195, 0, .null), (195, .iinc 5 1, 198, 0, .int (nI 1)), (198, .goto (-33), 201, 165, .null), (201, .lload_n 3, 202, 0, .null), (202, .lreturn, 203, 0, .null)]
set_option maxRecDepth 100000 in
theorem ok_TA_digestOfNet_2 : r_TA_digestOfNet_2.all (am_okRowb "TraceAligner" prog_1_method_31_code am_big) = true := by decide +kernel
def r_TA_digestOfNet : List am_Row := r_TA_digestOfNet_0 ++ (r_TA_digestOfNet_1 ++ (r_TA_digestOfNet_2))
def E_TA_digestOfNet : am_E := (am_G0, (F_TA, N_TA, C_TA), m_TA_digestOfNet, r_TA_digestOfNet)
theorem e_TA_digestOfNet : am_okE E_TA_digestOfNet := ⟨am_big_good, okT_TA, am_okRow_of (am_all_app ok_TA_digestOfNet_0 (am_all_app ok_TA_digestOfNet_1 ok_TA_digestOfNet_2))⟩
set_option maxRecDepth 100000 in
def r_TA_digestOfTraces_0 : List am_Row := [(0, .lload_n 1, 1, 0, .null), (1, .ldc2_w 259, 4, 0, .long (31)), (4, .lmul, 5, 0, .null), (5, .aload_n 0, 6, 0, .null), (6, .getfield 118, 9, 0, .null), (9, .i2l, 10, 0, .null), (10, .ladd, 11, 0, .null), (11, .lstore_n 3, 12, 0, .null), (12, .iconst 0, 13, 0, .int (nI 0)), (13, .istore 5, 15, 0, .null), (15, .iload 5, 17, 0, .null), (17, .aload_n 0, 18, 0, .null), (18, .getfield 118, 21, 0, .null), (21, .if_icmp .ge 79, 24, 100, .null), (24, .aload_n 0, 25, 0, .null), (25, .getfield 49, 28, 0, .null), (28, .iload 5, 30, 0, .null), (30, .aaload, 31, 0, .null), (31, .astore 6, 33, 0, .null), (33, .lload_n 3, 34, 0, .null), (34, .ldc2_w 259, 37, 0, .long (31)), (37, .lmul, 38, 0, .null), (38, .aload 6, 40, 0, .null), (40, .getfield 240, 43, 0, .null), (43, .i2l, 44, 0, .null), (44, .ladd, 45, 0, .null), (45, .lstore_n 3, 46, 0, .null), (46, .lload_n 3, 47, 0, .null), (47, .ldc2_w 259, 50, 0, .long (31)), (50, .lmul, 51, 0, .null), (51, .aload 6, 53, 0, .null), (53, .getfield 180, 56, 0, .null), (56, .i2l, 57, 0, .null), (57, .ladd, 58, 0, .null), (58, .lstore_n 3, 59, 0, .null), (59, .iconst 0, 60, 0, .int (nI 0)), (60, .istore 7, 62, 0, .null), (62, .iload 7, 64, 0, .null), (64, .aload 6, 66, 0, .null), (66, .getfield 180, 69, 0, .null)]
set_option maxRecDepth 100000 in
theorem ok_TA_digestOfTraces_0 : r_TA_digestOfTraces_0.all (am_okRowb "TraceAligner" prog_1_method_32_code am_big) = true := by decide +kernel
set_option maxRecDepth 100000 in
def r_TA_digestOfTraces_1 : List am_Row := [(69, .if_icmp .ge 25, 72, 94, .null), (72, .lload_n 3, 73, 0, .null), (73, .ldc2_w 259, 76, 0, .long (31)), (76, .lmul, 77, 0, .null), (77, .aload 6, 79, 0, .null), (79, .getfield 264, 82, 0, .null), (82, .iload 7, 84, 0, .null), (84, .iaload, 85, 0, .null), (85, .i2l, 86, 0, .null), (86, .ladd, 87, 0, .null), (87, .lstore_n 3, 88, 0, .null), (88, .iinc 7 1, 91, 0, .int (nI 1)), (91, .goto (-29), 94, 62, .null), (94, .iinc 5 1, 97, 0, .int (nI 1)), (97, .goto (-82), 100, 15, .null), (100, .lload_n 3, 101, 0, .null), (101, .lreturn, 102, 0, .null)]
set_option maxRecDepth 100000 in
theorem ok_TA_digestOfTraces_1 : r_TA_digestOfTraces_1.all (am_okRowb "TraceAligner" prog_1_method_32_code am_big) = true := by decide +kernel
def r_TA_digestOfTraces : List am_Row := r_TA_digestOfTraces_0 ++ (r_TA_digestOfTraces_1)
def E_TA_digestOfTraces : am_E := (am_G0, (F_TA, N_TA, C_TA), m_TA_digestOfTraces, r_TA_digestOfTraces)
theorem e_TA_digestOfTraces : am_okE E_TA_digestOfTraces := ⟨am_big_good, okT_TA, am_okRow_of (am_all_app ok_TA_digestOfTraces_0 ok_TA_digestOfTraces_1)⟩
set_option maxRecDepth 100000 in
def r_TA_forgetMarkings_0 : List am_Row := [(0, .aload_n 0, 1, 0, .null), (1, .getfield 21, 4, 0, .null), (4, .iconst 0, 5, 0, .int (nI 0)), (5, .putfield 265, 8, 0, .null), (8, .aload_n 0, 9, 0, .null), (9, .invokevirtual 186, 12, 0, .null), (12, .return_, 13, 0, .null)]
set_option maxRecDepth 100000 in
theorem ok_TA_forgetMarkings_0 : r_TA_forgetMarkings_0.all (am_okRowb "TraceAligner" prog_1_method_33_code am_big) = true := by decide +kernel
def r_TA_forgetMarkings : List am_Row := r_TA_forgetMarkings_0
def E_TA_forgetMarkings : am_E := (am_G0, (F_TA, N_TA, C_TA), m_TA_forgetMarkings, r_TA_forgetMarkings)
theorem e_TA_forgetMarkings : am_okE E_TA_forgetMarkings := ⟨am_big_good, okT_TA, am_okRow_of ok_TA_forgetMarkings_0⟩
set_option maxRecDepth 100000 in
def r_TA_forgetAlignments_0 : List am_Row := [(0, .iconst 0, 1, 0, .int (nI 0)), (1, .istore_n 1, 2, 0, .null), (2, .iload_n 1, 3, 0, .null), (3, .bipush 8, 5, 0, .int (nI 8)), (5, .if_icmp .ge 19, 8, 24, .null), (8, .aload_n 0, 9, 0, .null), (9, .getfield 49, 12, 0, .null), (12, .iload_n 1, 13, 0, .null), (13, .aaload, 14, 0, .null), (14, .iconst 0, 15, 0, .int (nI 0)), (15, .putfield 269, 18, 0, .null), (18, .iinc 1 1, 21, 0, .int (nI 1)), (21, .goto (-19), 24, 2, .null), (24, .return_, 25, 0, .null)]
set_option maxRecDepth 100000 in
theorem ok_TA_forgetAlignments_0 : r_TA_forgetAlignments_0.all (am_okRowb "TraceAligner" prog_1_method_34_code am_big) = true := by decide +kernel
def r_TA_forgetAlignments : List am_Row := r_TA_forgetAlignments_0
def E_TA_forgetAlignments : am_E := (am_G0, (F_TA, N_TA, C_TA), m_TA_forgetAlignments, r_TA_forgetAlignments)
theorem e_TA_forgetAlignments : am_okE E_TA_forgetAlignments := ⟨am_big_good, okT_TA, am_okRow_of ok_TA_forgetAlignments_0⟩
set_option maxRecDepth 100000 in
def r_TA_isNoLabel_0 : List am_Row := [(0, .iload_n 0, 1, 0, .null), (1, .ifCond .lt 9, 4, 10, .null), (4, .iload_n 0, 5, 0, .null), (5, .bipush 6, 7, 0, .int (nI 6)), (7, .if_icmp .lt 7, 10, 14, .null), (10, .iconst 1, 11, 0, .int (nI 1)), (11, .goto 4, 14, 15, .null), (14, .iconst 0, 15, 0, .int (nI 0)), (15, .ireturn, 16, 0, .null)]
set_option maxRecDepth 100000 in
theorem ok_TA_isNoLabel_0 : r_TA_isNoLabel_0.all (am_okRowb "TraceAligner" prog_1_method_35_code am_big) = true := by decide +kernel
def r_TA_isNoLabel : List am_Row := r_TA_isNoLabel_0
def E_TA_isNoLabel : am_E := (am_G0, (F_TA, N_TA, C_TA), m_TA_isNoLabel, r_TA_isNoLabel)
theorem e_TA_isNoLabel : am_okE E_TA_isNoLabel := ⟨am_big_good, okT_TA, am_okRow_of ok_TA_isNoLabel_0⟩
set_option maxRecDepth 100000 in
def r_TA_requirePlace_0 : List am_Row := [(0, .iload_n 1, 1, 0, .null), (1, .ifCond .lt 14, 4, 15, .null), (4, .iload_n 1, 5, 0, .null), (5, .aload_n 0, 6, 0, .null), (6, .getfield 10, 9, 0, .null), (9, .getfield 57, 12, 0, .null), (12, .if_icmp .lt 14, 15, 26, .null), (15, .new 121, 18, 0, .null), (18, .dup, 19, 0, .null), (19, .ldc_w 272, 22, 0, .null), (22, .invokespecial 125, 25, 0, .null), (25, .athrow, 26, 0, .null), (26, .return_, 27, 0, .null)]
set_option maxRecDepth 100000 in
theorem ok_TA_requirePlace_0 : r_TA_requirePlace_0.all (am_okRowb "TraceAligner" prog_1_method_36_code am_big) = true := by decide +kernel
def r_TA_requirePlace : List am_Row := r_TA_requirePlace_0
def E_TA_requirePlace : am_E := (am_G0, (F_TA, N_TA, C_TA), m_TA_requirePlace, r_TA_requirePlace)
theorem e_TA_requirePlace : am_okE E_TA_requirePlace := ⟨am_big_good, okT_TA, am_okRow_of ok_TA_requirePlace_0⟩
set_option maxRecDepth 100000 in
def r_TA_requireTransition_0 : List am_Row := [(0, .iload_n 1, 1, 0, .null), (1, .ifCond .lt 14, 4, 15, .null), (4, .iload_n 1, 5, 0, .null), (5, .aload_n 0, 6, 0, .null), (6, .getfield 10, 9, 0, .null), (9, .getfield 84, 12, 0, .null), (12, .if_icmp .lt 14, 15, 26, .null), (15, .new 121, 18, 0, .null), (18, .dup, 19, 0, .null), (19, .ldc_w 274, 22, 0, .null), (22, .invokespecial 125, 25, 0, .null), (25, .athrow, 26, 0, .null), (26, .return_, 27, 0, .null)]
set_option maxRecDepth 100000 in
theorem ok_TA_requireTransition_0 : r_TA_requireTransition_0.all (am_okRowb "TraceAligner" prog_1_method_37_code am_big) = true := by decide +kernel
def r_TA_requireTransition : List am_Row := r_TA_requireTransition_0
def E_TA_requireTransition : am_E := (am_G0, (F_TA, N_TA, C_TA), m_TA_requireTransition, r_TA_requireTransition)
theorem e_TA_requireTransition : am_okE E_TA_requireTransition := ⟨am_big_good, okT_TA, am_okRow_of ok_TA_requireTransition_0⟩
set_option maxRecDepth 100000 in
def r_TA_requireMarkings_0 : List am_Row := [(0, .aload_n 0, 1, 0, .null), (1, .getfield 21, 4, 0, .null), (4, .invokevirtual 129, 7, 0, .null), (7, .aload_n 0, 8, 0, .null), (8, .getfield 21, 11, 0, .null), (11, .getfield 132, 14, 0, .null), (14, .iconst (-1), 15, 0, .int (-1)), (15, .if_icmp .ne 14, 18, 29, .null), (18, .new 61, 21, 0, .null), (21, .dup, 22, 0, .null), (22, .ldc_w 276, 25, 0, .null), (25, .invokespecial 65, 28, 0, .null), (28, .athrow, 29, 0, .null), (29, .return_, 30, 0, .null)]
set_option maxRecDepth 100000 in
theorem ok_TA_requireMarkings_0 : r_TA_requireMarkings_0.all (am_okRowb "TraceAligner" prog_1_method_38_code am_big) = true := by decide +kernel
def r_TA_requireMarkings : List am_Row := r_TA_requireMarkings_0
def E_TA_requireMarkings : am_E := (am_G0, (F_TA, N_TA, C_TA), m_TA_requireMarkings, r_TA_requireMarkings)
theorem e_TA_requireMarkings : am_okE E_TA_requireMarkings := ⟨am_big_good, okT_TA, am_okRow_of ok_TA_requireMarkings_0⟩
set_option maxRecDepth 100000 in
def r_TA_requireMarking_0 : List am_Row := [(0, .iload_n 1, 1, 0, .null), (1, .ifCond .lt 14, 4, 15, .null), (4, .iload_n 1, 5, 0, .null), (5, .aload_n 0, 6, 0, .null), (6, .getfield 21, 9, 0, .null), (9, .getfield 132, 12, 0, .null), (12, .if_icmp .lt 14, 15, 26, .null), (15, .new 121, 18, 0, .null), (18, .dup, 19, 0, .null), (19, .ldc_w 278, 22, 0, .null), (22, .invokespecial 125, 25, 0, .null), (25, .athrow, 26, 0, .null), (26, .return_, 27, 0, .null)]
set_option maxRecDepth 100000 in
theorem ok_TA_requireMarking_0 : r_TA_requireMarking_0.all (am_okRowb "TraceAligner" prog_1_method_39_code am_big) = true := by decide +kernel
def r_TA_requireMarking : List am_Row := r_TA_requireMarking_0
def E_TA_requireMarking : am_E := (am_G0, (F_TA, N_TA, C_TA), m_TA_requireMarking, r_TA_requireMarking)
theorem e_TA_requireMarking : am_okE E_TA_requireMarking := ⟨am_big_good, okT_TA, am_okRow_of ok_TA_requireMarking_0⟩
set_option maxRecDepth 100000 in
def r_TA_requireTrace_0 : List am_Row := [(0, .iload_n 1, 1, 0, .null), (1, .ifCond .lt 11, 4, 12, .null), (4, .iload_n 1, 5, 0, .null), (5, .aload_n 0, 6, 0, .null), (6, .getfield 118, 9, 0, .null), (9, .if_icmp .lt 14, 12, 23, .null), (12, .new 121, 15, 0, .null), (15, .dup, 16, 0, .null), (16, .ldc_w 280, 19, 0, .null), (19, .invokespecial 125, 22, 0, .null), (22, .athrow, 23, 0, .null), (23, .return_, 24, 0, .null)]
set_option maxRecDepth 100000 in
theorem ok_TA_requireTrace_0 : r_TA_requireTrace_0.all (am_okRowb "TraceAligner" prog_1_method_40_code am_big) = true := by decide +kernel
def r_TA_requireTrace : List am_Row := r_TA_requireTrace_0
def E_TA_requireTrace : am_E := (am_G0, (F_TA, N_TA, C_TA), m_TA_requireTrace, r_TA_requireTrace)
theorem e_TA_requireTrace : am_okE E_TA_requireTrace := ⟨am_big_good, okT_TA, am_okRow_of ok_TA_requireTrace_0⟩
set_option maxRecDepth 100000 in
def r_TA_requireCost_0 : List am_Row := [(0, .iload_n 0, 1, 0, .null), (1, .ifCond .lt 9, 4, 10, .null), (4, .iload_n 0, 5, 0, .null), (5, .bipush 9, 7, 0, .int (nI 9)), (7, .if_icmp .le 14, 10, 21, .null), (10, .new 79, 13, 0, .null), (13, .dup, 14, 0, .null), (14, .ldc_w 282, 17, 0, .null), (17, .invokespecial 83, 20, 0, .null), (20, .athrow, 21, 0, .null), (21, .return_, 22, 0, .null)]
set_option maxRecDepth 100000 in
theorem ok_TA_requireCost_0 : r_TA_requireCost_0.all (am_okRowb "TraceAligner" prog_1_method_41_code am_big) = true := by decide +kernel
def r_TA_requireCost : List am_Row := r_TA_requireCost_0
def E_TA_requireCost : am_E := (am_G0, (F_TA, N_TA, C_TA), m_TA_requireCost, r_TA_requireCost)
theorem e_TA_requireCost : am_okE E_TA_requireCost := ⟨am_big_good, okT_TA, am_okRow_of ok_TA_requireCost_0⟩
set_option maxRecDepth 100000 in
def r_TA_alignedTrace_0 : List am_Row := [(0, .aload_n 0, 1, 0, .null), (1, .iload_n 1, 2, 0, .null), (2, .invokevirtual 177, 5, 0, .null), (5, .aload_n 0, 6, 0, .null), (6, .invokevirtual 135, 9, 0, .null), (9, .aload_n 0, 10, 0, .null), (10, .getfield 40, 13, 0, .null), (13, .aload_n 0, 14, 0, .null), (14, .getfield 49, 17, 0, .null), (17, .iload_n 1, 18, 0, .null), (18, .aaload, 19, 0, .null), (19, .invokevirtual 236, 22, 0, .null), (22, .aload_n 0, 23, 0, .null), (23, .getfield 49, 26, 0, .null), (26, .iload_n 1, 27, 0, .null), (27, .aaload, 28, 0, .null), (28, .areturn, 29, 0, .null)]
set_option maxRecDepth 100000 in
theorem ok_TA_alignedTrace_0 : r_TA_alignedTrace_0.all (am_okRowb "TraceAligner" prog_1_method_42_code am_big) = true := by decide +kernel
def r_TA_alignedTrace : List am_Row := r_TA_alignedTrace_0
def E_TA_alignedTrace : am_E := (am_G0, (F_TA, N_TA, C_TA), m_TA_alignedTrace, r_TA_alignedTrace)
theorem e_TA_alignedTrace : am_okE E_TA_alignedTrace := ⟨am_big_good, okT_TA, am_okRow_of ok_TA_alignedTrace_0⟩
set_option maxRecDepth 100000 in
def r_TA_fitnessOf_0 : List am_Row := [(0, .iload_n 1, 1, 0, .null), (1, .ifCond .ne 7, 4, 8, .null), (4, .dconst 1, 5, 0, .double FP.dconst1), (5, .goto 10, 8, 15, .null), (8, .dconst 1, 9, 0, .double FP.dconst1), (9, .iload_n 0, 10, 0, .null), (10, .i2d, 11, 0, .null), (11, .iload_n 1, 12, 0, .null), (12, .i2d, 13, 0, .null), (13, .ddiv, 14, 0, .null), (14, .dsub, 15, 0, .null), (15, .dreturn, 16, 0, .null)]
set_option maxRecDepth 100000 in
theorem ok_TA_fitnessOf_0 : r_TA_fitnessOf_0.all (am_okRowb "TraceAligner" prog_1_method_43_code am_big) = true := by decide +kernel
def r_TA_fitnessOf : List am_Row := r_TA_fitnessOf_0
def E_TA_fitnessOf : am_E := (am_G0, (F_TA, N_TA, C_TA), m_TA_fitnessOf, r_TA_fitnessOf)
theorem e_TA_fitnessOf : am_okE E_TA_fitnessOf := ⟨am_big_good, okT_TA, am_okRow_of ok_TA_fitnessOf_0⟩
set_option maxRecDepth 100000 in
def r_TA_collectFired_0 : List am_Row := [(0, .aload_n 0, 1, 0, .null), (1, .getfield 54, 4, 0, .null), (4, .iconst 0, 5, 0, .int (nI 0)), (5, .invokestatic 29, 8, 0, .null), (8, .iconst 0, 9, 0, .int (nI 0)), (9, .istore_n 1, 10, 0, .null), (10, .iload_n 1, 11, 0, .null), (11, .aload_n 0, 12, 0, .null), (12, .getfield 118, 15, 0, .null), (15, .if_icmp .ge 47, 18, 62, .null), (18, .aload_n 0, 19, 0, .null), (19, .getfield 40, 22, 0, .null), (22, .aload_n 0, 23, 0, .null), (23, .getfield 49, 26, 0, .null), (26, .iload_n 1, 27, 0, .null), (27, .aaload, 28, 0, .null), (28, .invokevirtual 236, 31, 0, .null), (31, .aload_n 0, 32, 0, .null), (32, .getfield 49, 35, 0, .null), (35, .iload_n 1, 36, 0, .null), (36, .aaload, 37, 0, .null), (37, .getfield 240, 40, 0, .null), (40, .ifCond .le 16, 43, 56, .null), (43, .aload_n 0, 44, 0, .null), (44, .getfield 49, 47, 0, .null), (47, .iload_n 1, 48, 0, .null), (48, .aaload, 49, 0, .null), (49, .aload_n 0, 50, 0, .null), (50, .getfield 54, 53, 0, .null), (53, .invokevirtual 284, 56, 0, .null), (56, .iinc 1 1, 59, 0, .int (nI 1)), (59, .goto (-49), 62, 10, .null), (62, .return_, 63, 0, .null)]
set_option maxRecDepth 100000 in
theorem ok_TA_collectFired_0 : r_TA_collectFired_0.all (am_okRowb "TraceAligner" prog_1_method_44_code am_big) = true := by decide +kernel
def r_TA_collectFired : List am_Row := r_TA_collectFired_0
def E_TA_collectFired : am_E := (am_G0, (F_TA, N_TA, C_TA), m_TA_collectFired, r_TA_collectFired)
theorem e_TA_collectFired : am_okE E_TA_collectFired := ⟨am_big_good, okT_TA, am_okRow_of ok_TA_collectFired_0⟩
set_option maxRecDepth 100000 in
def r_MO_init_0 : List am_Row := [(0, .aload_n 0, 1, 0, .null), (1, .invokespecial 3, 4, 0, .null), (4, .aload_n 0, 5, 0, .null), (5, .bipush 10, 7, 0, .int (nI 10)), (7, .newarray .int, 9, 0, .null), (9, .putfield 11, 12, 0, .null), (12, .aload_n 0, 13, 0, .null), (13, .bipush 10, 15, 0, .int (nI 10)), (15, .newarray .int, 17, 0, .null), (17, .putfield 15, 20, 0, .null), (20, .aload_n 0, 21, 0, .null), (21, .bipush 10, 23, 0, .int (nI 10)), (23, .newarray .int, 25, 0, .null), (25, .putfield 18, 28, 0, .null), (28, .aload_n 0, 29, 0, .null), (29, .bipush 10, 31, 0, .int (nI 10)), (31, .newarray .int, 33, 0, .null), (33, .putfield 21, 36, 0, .null), (36, .aload_n 0, 37, 0, .null), (37, .bipush 6, 39, 0, .int (nI 6)), (39, .newarray .int, 41, 0, .null), (41, .dup, 42, 0, .null), (42, .iconst 0, 43, 0, .int (nI 0)), (43, .iconst 1, 44, 0, .int (nI 1)), (44, .iastore, 45, 0, .null), (45, .dup, 46, 0, .null), (46, .iconst 1, 47, 0, .int (nI 1)), (47, .iconst 1, 48, 0, .int (nI 1)), (48, .iastore, 49, 0, .null), (49, .dup, 50, 0, .null), (50, .iconst 2, 51, 0, .int (nI 2)), (51, .iconst 1, 52, 0, .int (nI 1)), (52, .iastore, 53, 0, .null), (53, .dup, 54, 0, .null), (54, .iconst 3, 55, 0, .int (nI 3)), (55, .iconst 1, 56, 0, .int (nI 1)), (56, .iastore, 57, 0, .null), (57, .dup, 58, 0, .null), (58, .iconst 4, 59, 0, .int (nI 4)), (59, .iconst 1, 60, 0, .int (nI 1))]
set_option maxRecDepth 100000 in
theorem ok_MO_init_0 : r_MO_init_0.all (am_okRowb "TraceAlignerModel" prog_7_method_1_code am_big) = true := by decide +kernel
set_option maxRecDepth 100000 in
def r_MO_init_1 : List am_Row := [(60, .iastore, 61, 0, .null), (61, .dup, 62, 0, .null), (62, .iconst 5, 63, 0, .int (nI 5)), (63, .iconst 1, 64, 0, .int (nI 1)), (64, .iastore, 65, 0, .null), (65, .putfield 24, 68, 0, .null), (68, .aload_n 0, 69, 0, .null), (69, .bipush 8, 71, 0, .int (nI 8)), (71, .newarray .int, 73, 0, .null), (73, .putfield 27, 76, 0, .null), (76, .aload_n 0, 77, 0, .null), (77, .bipush 8, 79, 0, .int (nI 8)), (79, .newarray .int, 81, 0, .null), (81, .putfield 30, 84, 0, .null), (84, .aload_n 0, 85, 0, .null), (85, .bipush 8, 87, 0, .int (nI 8)), (87, .newarray .int, 89, 0, .null), (89, .putfield 33, 92, 0, .null), (92, .aload_n 0, 93, 0, .null), (93, .bipush 64, 95, 0, .int (nI 64)), (95, .newarray .int, 97, 0, .null), (97, .putfield 36, 100, 0, .null), (100, .aload_n 0, 101, 0, .null), (101, .sipush 200, 104, 0, .int (nI 200)), (104, .newarray .int, 106, 0, .null), (106, .putfield 39, 109, 0, .null), (109, .aload_n 0, 110, 0, .null), (110, .sipush 2000, 113, 0, .int (nI 2000)), (113, .newarray .int, 115, 0, .null), (115, .putfield 42, 118, 0, .null), (118, .aload_n 0, 119, 0, .null), (119, .sipush 1800, 122, 0, .int (nI 1800)), (122, .newarray .int, 124, 0, .null), (124, .putfield 45, 127, 0, .null), (127, .aload_n 0, 128, 0, .null), (128, .sipush 1800, 131, 0, .int (nI 1800)), (131, .newarray .int, 133, 0, .null), (133, .putfield 48, 136, 0, .null), (136, .aload_n 0, 137, 0, .null), (137, .sipush 1800, 140, 0, .int (nI 1800))]
set_option maxRecDepth 100000 in
theorem ok_MO_init_1 : r_MO_init_1.all (am_okRowb "TraceAlignerModel" prog_7_method_1_code am_big) = true := by decide +kernel
set_option maxRecDepth 100000 in
def r_MO_init_2 : List am_Row := [(140, .newarray .int, 142, 0, .null), (142, .putfield 51, 145, 0, .null), (145, .aload_n 0, 146, 0, .null), (146, .sipush 1800, 149, 0, .int (nI 1800)), (149, .newarray .int, 151, 0, .null), (151, .putfield 54, 154, 0, .null), (154, .return_, 155, 0, .null)]
set_option maxRecDepth 100000 in
theorem ok_MO_init_2 : r_MO_init_2.all (am_okRowb "TraceAlignerModel" prog_7_method_1_code am_big) = true := by decide +kernel
def r_MO_init : List am_Row := r_MO_init_0 ++ (r_MO_init_1 ++ (r_MO_init_2))
def E_MO_init : am_E := (am_G0, (F_MO, N_MO, C_MO), m_MO_init, r_MO_init)
theorem e_MO_init : am_okE E_MO_init := ⟨am_big_good, okT_MO, am_okRow_of (am_all_app ok_MO_init_0 (am_all_app ok_MO_init_1 ok_MO_init_2))⟩
set_option maxRecDepth 100000 in
def r_MO_thrown_0 : List am_Row := [(0, .aload_n 0, 1, 0, .null), (1, .getfield 57, 4, 0, .null), (4, .ireturn, 5, 0, .null)]
set_option maxRecDepth 100000 in
theorem ok_MO_thrown_0 : r_MO_thrown_0.all (am_okRowb "TraceAlignerModel" prog_7_method_2_code am_big) = true := by decide +kernel
def r_MO_thrown : List am_Row := r_MO_thrown_0
def E_MO_thrown : am_E := (am_G0, (F_MO, N_MO, C_MO), m_MO_thrown, r_MO_thrown)
theorem e_MO_thrown : am_okE E_MO_thrown := ⟨am_big_good, okT_MO, am_okRow_of ok_MO_thrown_0⟩
set_option maxRecDepth 100000 in
def r_MO_no_0 : List am_Row := [(0, .aload_n 0, 1, 0, .null), (1, .iload_n 1, 2, 0, .null), (2, .putfield 57, 5, 0, .null), (5, .iconst 0, 6, 0, .int (nI 0)), (6, .ireturn, 7, 0, .null)]
set_option maxRecDepth 100000 in
theorem ok_MO_no_0 : r_MO_no_0.all (am_okRowb "TraceAlignerModel" prog_7_method_3_code am_big) = true := by decide +kernel
def r_MO_no : List am_Row := r_MO_no_0
def E_MO_no : am_E := (am_G0, (F_MO, N_MO, C_MO), m_MO_no, r_MO_no)
theorem e_MO_no : am_okE E_MO_no := ⟨am_big_good, okT_MO, am_okRow_of ok_MO_no_0⟩
set_option maxRecDepth 100000 in
def r_MO_isIn_0 : List am_Row := [(0, .iload_n 0, 1, 0, .null), (1, .iload_n 1, 2, 0, .null), (2, .if_icmp .lt 12, 5, 14, .null), (5, .iload_n 0, 6, 0, .null), (6, .iload_n 2, 7, 0, .null), (7, .if_icmp .gt 7, 10, 14, .null), (10, .iconst 1, 11, 0, .int (nI 1)), (11, .goto 4, 14, 15, .null), (14, .iconst 0, 15, 0, .int (nI 0)), (15, .ireturn, 16, 0, .null)]
set_option maxRecDepth 100000 in
theorem ok_MO_isIn_0 : r_MO_isIn_0.all (am_okRowb "TraceAlignerModel" prog_7_method_4_code am_big) = true := by decide +kernel
def r_MO_isIn : List am_Row := r_MO_isIn_0
def E_MO_isIn : am_E := (am_G0, (F_MO, N_MO, C_MO), m_MO_isIn, r_MO_isIn)
theorem e_MO_isIn : am_okE E_MO_isIn := ⟨am_big_good, okT_MO, am_okRow_of ok_MO_isIn_0⟩
set_option maxRecDepth 100000 in
def r_MO_isPlace_0 : List am_Row := [(0, .iload_n 1, 1, 0, .null), (1, .iconst 0, 2, 0, .int (nI 0)), (2, .aload_n 0, 3, 0, .null), (3, .getfield 61, 6, 0, .null), (6, .iconst 1, 7, 0, .int (nI 1)), (7, .isub, 8, 0, .null), (8, .invokestatic 64, 11, 0, .null), (11, .ireturn, 12, 0, .null)]
set_option maxRecDepth 100000 in
theorem ok_MO_isPlace_0 : r_MO_isPlace_0.all (am_okRowb "TraceAlignerModel" prog_7_method_6_code am_big) = true := by decide +kernel
def r_MO_isPlace : List am_Row := r_MO_isPlace_0
def E_MO_isPlace : am_E := (am_G0, (F_MO, N_MO, C_MO), m_MO_isPlace, r_MO_isPlace)
theorem e_MO_isPlace : am_okE E_MO_isPlace := ⟨am_big_good, okT_MO, am_okRow_of ok_MO_isPlace_0⟩
set_option maxRecDepth 100000 in
def r_MO_isTransition_0 : List am_Row := [(0, .iload_n 1, 1, 0, .null), (1, .iconst 0, 2, 0, .int (nI 0)), (2, .aload_n 0, 3, 0, .null), (3, .getfield 68, 6, 0, .null), (6, .iconst 1, 7, 0, .int (nI 1)), (7, .isub, 8, 0, .null), (8, .invokestatic 64, 11, 0, .null), (11, .ireturn, 12, 0, .null)]
set_option maxRecDepth 100000 in
theorem ok_MO_isTransition_0 : r_MO_isTransition_0.all (am_okRowb "TraceAlignerModel" prog_7_method_7_code am_big) = true := by decide +kernel
def r_MO_isTransition : List am_Row := r_MO_isTransition_0
def E_MO_isTransition : am_E := (am_G0, (F_MO, N_MO, C_MO), m_MO_isTransition, r_MO_isTransition)
theorem e_MO_isTransition : am_okE E_MO_isTransition := ⟨am_big_good, okT_MO, am_okRow_of ok_MO_isTransition_0⟩
set_option maxRecDepth 100000 in
def r_MO_isTrace_0 : List am_Row := [(0, .iload_n 1, 1, 0, .null), (1, .iconst 0, 2, 0, .int (nI 0)), (2, .aload_n 0, 3, 0, .null), (3, .getfield 71, 6, 0, .null), (6, .iconst 1, 7, 0, .int (nI 1)), (7, .isub, 8, 0, .null), (8, .invokestatic 64, 11, 0, .null), (11, .ireturn, 12, 0, .null)]
set_option maxRecDepth 100000 in
theorem ok_MO_isTrace_0 : r_MO_isTrace_0.all (am_okRowb "TraceAlignerModel" prog_7_method_8_code am_big) = true := by decide +kernel
def r_MO_isTrace : List am_Row := r_MO_isTrace_0
def E_MO_isTrace : am_E := (am_G0, (F_MO, N_MO, C_MO), m_MO_isTrace, r_MO_isTrace)
theorem e_MO_isTrace : am_okE E_MO_isTrace := ⟨am_big_good, okT_MO, am_okRow_of ok_MO_isTrace_0⟩
set_option maxRecDepth 100000 in
def r_MO_isLabel_0 : List am_Row := [(0, .iload_n 0, 1, 0, .null), (1, .iconst 0, 2, 0, .int (nI 0)), (2, .iconst 5, 3, 0, .int (nI 5)), (3, .invokestatic 64, 6, 0, .null), (6, .ireturn, 7, 0, .null)]
set_option maxRecDepth 100000 in
theorem ok_MO_isLabel_0 : r_MO_isLabel_0.all (am_okRowb "TraceAlignerModel" prog_7_method_9_code am_big) = true := by decide +kernel
def r_MO_isLabel : List am_Row := r_MO_isLabel_0
def E_MO_isLabel : am_E := (am_G0, (F_MO, N_MO, C_MO), m_MO_isLabel, r_MO_isLabel)
theorem e_MO_isLabel : am_okE E_MO_isLabel := ⟨am_big_good, okT_MO, am_okRow_of ok_MO_isLabel_0⟩
set_option maxRecDepth 100000 in
def r_MO_addPlace_0 : List am_Row := [(0, .aload_n 0, 1, 0, .null), (1, .iconst 0, 2, 0, .int (nI 0)), (2, .putfield 57, 5, 0, .null), (5, .aload_n 0, 6, 0, .null), (6, .getfield 61, 9, 0, .null), (9, .bipush 8, 11, 0, .int (nI 8)), (11, .if_icmp .ne 9, 14, 20, .null), (14, .aload_n 0, 15, 0, .null), (15, .iconst 1, 16, 0, .int (nI 1)), (16, .invokevirtual 74, 19, 0, .null), (19, .ireturn, 20, 0, .null), (20, .aload_n 0, 21, 0, .null), (21, .dup, 22, 0, .null), (22, .getfield 61, 25, 0, .null), (25, .iconst 1, 26, 0, .int (nI 1)), (26, .iadd, 27, 0, .null), (27, .putfield 61, 30, 0, .null), (30, .aload_n 0, 31, 0, .null), (31, .iconst 0, 32, 0, .int (nI 0)), (32, .putfield 78, 35, 0, .null), (35, .aload_n 0, 36, 0, .null), (36, .getfield 61, 39, 0, .null), (39, .iconst 1, 40, 0, .int (nI 1)), (40, .isub, 41, 0, .null), (41, .ireturn, 42, 0, .null)]
set_option maxRecDepth 100000 in
theorem ok_MO_addPlace_0 : r_MO_addPlace_0.all (am_okRowb "TraceAlignerModel" prog_7_method_10_code am_big) = true := by decide +kernel
def r_MO_addPlace : List am_Row := r_MO_addPlace_0
def E_MO_addPlace : am_E := (am_G0, (F_MO, N_MO, C_MO), m_MO_addPlace, r_MO_addPlace)
theorem e_MO_addPlace : am_okE E_MO_addPlace := ⟨am_big_good, okT_MO, am_okRow_of ok_MO_addPlace_0⟩
set_option maxRecDepth 100000 in
def r_MO_addTransition_0 : List am_Row := [(0, .aload_n 0, 1, 0, .null), (1, .iconst 0, 2, 0, .int (nI 0)), (2, .putfield 57, 5, 0, .null), (5, .iload_n 1, 6, 0, .null), (6, .iconst (-1), 7, 0, .int (-1)), (7, .if_icmp .eq 16, 10, 23, .null), (10, .iload_n 1, 11, 0, .null), (11, .invokestatic 82, 14, 0, .null), (14, .ifCond .ne 9, 17, 23, .null), (17, .aload_n 0, 18, 0, .null), (18, .iconst 1, 19, 0, .int (nI 1)), (19, .invokevirtual 74, 22, 0, .null), (22, .ireturn, 23, 0, .null), (23, .aload_n 0, 24, 0, .null), (24, .getfield 68, 27, 0, .null), (27, .bipush 10, 29, 0, .int (nI 10)), (29, .if_icmp .ne 9, 32, 38, .null), (32, .aload_n 0, 33, 0, .null), (33, .iconst 2, 34, 0, .int (nI 2)), (34, .invokevirtual 74, 37, 0, .null), (37, .ireturn, 38, 0, .null), (38, .aload_n 0, 39, 0, .null), (39, .getfield 11, 42, 0, .null), (42, .aload_n 0, 43, 0, .null), (43, .getfield 68, 46, 0, .null), (46, .iload_n 1, 47, 0, .null), (47, .iastore, 48, 0, .null), (48, .aload_n 0, 49, 0, .null), (49, .getfield 15, 52, 0, .null), (52, .aload_n 0, 53, 0, .null), (53, .getfield 68, 56, 0, .null), (56, .iload_n 1, 57, 0, .null), (57, .iconst (-1), 58, 0, .int (-1)), (58, .if_icmp .ne 7, 61, 65, .null), (61, .iconst 0, 62, 0, .int (nI 0)), (62, .goto 4, 65, 66, .null), (65, .iconst 1, 66, 0, .int (nI 1)), (66, .iastore, 67, 0, .null), (67, .aload_n 0, 68, 0, .null), (68, .getfield 18, 71, 0, .null)]
set_option maxRecDepth 100000 in
theorem ok_MO_addTransition_0 : r_MO_addTransition_0.all (am_okRowb "TraceAlignerModel" prog_7_method_11_code am_big) = true := by decide +kernel
set_option maxRecDepth 100000 in
def r_MO_addTransition_1 : List am_Row := [(71, .aload_n 0, 72, 0, .null), (72, .getfield 68, 75, 0, .null), (75, .iconst 0, 76, 0, .int (nI 0)), (76, .iastore, 77, 0, .null), (77, .aload_n 0, 78, 0, .null), (78, .getfield 21, 81, 0, .null), (81, .aload_n 0, 82, 0, .null), (82, .getfield 68, 85, 0, .null), (85, .iconst 0, 86, 0, .int (nI 0)), (86, .iastore, 87, 0, .null), (87, .aload_n 0, 88, 0, .null), (88, .dup, 89, 0, .null), (89, .getfield 68, 92, 0, .null), (92, .iconst 1, 93, 0, .int (nI 1)), (93, .iadd, 94, 0, .null), (94, .putfield 68, 97, 0, .null), (97, .aload_n 0, 98, 0, .null), (98, .iconst 0, 99, 0, .int (nI 0)), (99, .putfield 78, 102, 0, .null), (102, .aload_n 0, 103, 0, .null), (103, .getfield 68, 106, 0, .null), (106, .iconst 1, 107, 0, .int (nI 1)), (107, .isub, 108, 0, .null), (108, .ireturn, 109, 0, .null)]
set_option maxRecDepth 100000 in
theorem ok_MO_addTransition_1 : r_MO_addTransition_1.all (am_okRowb "TraceAlignerModel" prog_7_method_11_code am_big) = true := by decide +kernel
def r_MO_addTransition : List am_Row := r_MO_addTransition_0 ++ (r_MO_addTransition_1)
def E_MO_addTransition : am_E := (am_G0, (F_MO, N_MO, C_MO), m_MO_addTransition, r_MO_addTransition)
theorem e_MO_addTransition : am_okE E_MO_addTransition := ⟨am_big_good, okT_MO, am_okRow_of (am_all_app ok_MO_addTransition_0 ok_MO_addTransition_1)⟩
set_option maxRecDepth 100000 in
def r_MO_link_0 : List am_Row := [(0, .aload_n 0, 1, 0, .null), (1, .aload_n 0, 2, 0, .null), (2, .iload_n 1, 3, 0, .null), (3, .invokevirtual 86, 6, 0, .null), (6, .ifCond .eq 15, 9, 21, .null), (9, .aload_n 0, 10, 0, .null), (10, .iload_n 2, 11, 0, .null), (11, .invokevirtual 89, 14, 0, .null), (14, .ifCond .eq 7, 17, 21, .null), (17, .iconst 0, 18, 0, .int (nI 0)), (18, .goto 4, 21, 22, .null), (21, .iconst 1, 22, 0, .int (nI 1)), (22, .putfield 57, 25, 0, .null), (25, .aload_n 0, 26, 0, .null), (26, .getfield 57, 29, 0, .null), (29, .ifCond .eq 5, 32, 34, .null), (32, .iconst 0, 33, 0, .int (nI 0)), (33, .ireturn, 34, 0, .null), (34, .iload_n 3, 35, 0, .null), (35, .ifCond .eq 10, 38, 45, .null), (38, .aload_n 0, 39, 0, .null), (39, .getfield 18, 42, 0, .null), (42, .goto 7, 45, 49, .null), (45, .aload_n 0, 46, 0, .null), (46, .getfield 21, 49, 0, .null), (49, .astore 5, 51, 0, .null), (51, .aload 5, 53, 0, .null), (53, .iload_n 1, 54, 0, .null), (54, .iaload, 55, 0, .null), (55, .iload_n 2, 56, 0, .null), (56, .invokestatic 92, 59, 0, .null), (59, .istore 6, 61, 0, .null), (61, .aload 5, 63, 0, .null), (63, .iload_n 1, 64, 0, .null), (64, .iload 4, 66, 0, .null), (66, .ifCond .eq 14, 69, 80, .null), (69, .aload 5, 71, 0, .null), (71, .iload_n 1, 72, 0, .null), (72, .iaload, 73, 0, .null), (73, .iconst 1, 74, 0, .int (nI 1))]
set_option maxRecDepth 100000 in
theorem ok_MO_link_0 : r_MO_link_0.all (am_okRowb "TraceAlignerModel" prog_7_method_12_code am_big) = true := by decide +kernel
set_option maxRecDepth 100000 in
def r_MO_link_1 : List am_Row := [(74, .iload_n 2, 75, 0, .null), (75, .ishl, 76, 0, .null), (76, .ior, 77, 0, .null), (77, .goto 13, 80, 90, .null), (80, .aload 5, 82, 0, .null), (82, .iload_n 1, 83, 0, .null), (83, .iaload, 84, 0, .null), (84, .iconst 1, 85, 0, .int (nI 1)), (85, .iload_n 2, 86, 0, .null), (86, .ishl, 87, 0, .null), (87, .iconst (-1), 88, 0, .int (-1)), (88, .ixor, 89, 0, .null), (89, .iand, 90, 0, .null), (90, .iastore, 91, 0, .null), (91, .aload_n 0, 92, 0, .null), (92, .iconst 0, 93, 0, .int (nI 0)), (93, .putfield 78, 96, 0, .null), (96, .iload 6, 98, 0, .null), (98, .ireturn, 99, 0, .null)]
set_option maxRecDepth 100000 in
theorem ok_MO_link_1 : r_MO_link_1.all (am_okRowb "TraceAlignerModel" prog_7_method_12_code am_big) = true := by decide +kernel
def r_MO_link : List am_Row := r_MO_link_0 ++ (r_MO_link_1)
def E_MO_link : am_E := (am_G0, (F_MO, N_MO, C_MO), m_MO_link, r_MO_link)
theorem e_MO_link : am_okE E_MO_link := ⟨am_big_good, okT_MO, am_okRow_of (am_all_app ok_MO_link_0 ok_MO_link_1)⟩
set_option maxRecDepth 100000 in
def r_MO_setTokens_0 : List am_Row := [(0, .aload_n 0, 1, 0, .null), (1, .iconst 0, 2, 0, .int (nI 0)), (2, .putfield 57, 5, 0, .null), (5, .aload_n 0, 6, 0, .null), (6, .iload_n 1, 7, 0, .null), (7, .invokevirtual 89, 10, 0, .null), (10, .ifCond .ne 9, 13, 19, .null), (13, .aload_n 0, 14, 0, .null), (14, .iconst 1, 15, 0, .int (nI 1)), (15, .invokevirtual 74, 18, 0, .null), (18, .ireturn, 19, 0, .null), (19, .iload_n 2, 20, 0, .null), (20, .iconst 0, 21, 0, .int (nI 0)), (21, .iconst 3, 22, 0, .int (nI 3)), (22, .invokestatic 64, 25, 0, .null), (25, .ifCond .ne 9, 28, 34, .null), (28, .aload_n 0, 29, 0, .null), (29, .iconst 2, 30, 0, .int (nI 2)), (30, .invokevirtual 74, 33, 0, .null), (33, .ireturn, 34, 0, .null), (34, .iload_n 3, 35, 0, .null), (35, .ifCond .eq 10, 38, 45, .null), (38, .aload_n 0, 39, 0, .null), (39, .getfield 96, 42, 0, .null), (42, .goto 7, 45, 49, .null), (45, .aload_n 0, 46, 0, .null), (46, .getfield 99, 49, 0, .null), (49, .iload_n 1, 50, 0, .null), (50, .invokestatic 102, 53, 0, .null), (53, .istore 4, 55, 0, .null), (55, .iload_n 2, 56, 0, .null), (56, .iload 4, 58, 0, .null), (58, .isub, 59, 0, .null), (59, .iconst 2, 60, 0, .int (nI 2)), (60, .iload_n 1, 61, 0, .null), (61, .imul, 62, 0, .null), (62, .ishl, 63, 0, .null), (63, .istore 5, 65, 0, .null), (65, .iload_n 3, 66, 0, .null), (66, .ifCond .eq 17, 69, 83, .null)]
set_option maxRecDepth 100000 in
theorem ok_MO_setTokens_0 : r_MO_setTokens_0.all (am_okRowb "TraceAlignerModel" prog_7_method_14_code am_big) = true := by decide +kernel
set_option maxRecDepth 100000 in
def r_MO_setTokens_1 : List am_Row := [(69, .aload_n 0, 70, 0, .null), (70, .dup, 71, 0, .null), (71, .getfield 96, 74, 0, .null), (74, .iload 5, 76, 0, .null), (76, .iadd, 77, 0, .null), (77, .putfield 96, 80, 0, .null), (80, .goto 14, 83, 94, .null), (83, .aload_n 0, 84, 0, .null), (84, .dup, 85, 0, .null), (85, .getfield 99, 88, 0, .null), (88, .iload 5, 90, 0, .null), (90, .iadd, 91, 0, .null), (91, .putfield 99, 94, 0, .null), (94, .aload_n 0, 95, 0, .null), (95, .iconst 0, 96, 0, .int (nI 0)), (96, .putfield 78, 99, 0, .null), (99, .iload 4, 101, 0, .null), (101, .ireturn, 102, 0, .null)]
set_option maxRecDepth 100000 in
theorem ok_MO_setTokens_1 : r_MO_setTokens_1.all (am_okRowb "TraceAlignerModel" prog_7_method_14_code am_big) = true := by decide +kernel
def r_MO_setTokens : List am_Row := r_MO_setTokens_0 ++ (r_MO_setTokens_1)
def E_MO_setTokens : am_E := (am_G0, (F_MO, N_MO, C_MO), m_MO_setTokens, r_MO_setTokens)
theorem e_MO_setTokens : am_okE E_MO_setTokens := ⟨am_big_good, okT_MO, am_okRow_of (am_all_app ok_MO_setTokens_0 ok_MO_setTokens_1)⟩
set_option maxRecDepth 100000 in
def r_MO_count_0 : List am_Row := [(0, .aload_n 0, 1, 0, .null), (1, .iconst 0, 2, 0, .int (nI 0)), (2, .putfield 57, 5, 0, .null), (5, .iload_n 1, 6, 0, .null), (6, .iconst 0, 7, 0, .int (nI 0)), (7, .iconst 2, 8, 0, .int (nI 2)), (8, .invokestatic 64, 11, 0, .null), (11, .ifCond .ne 9, 14, 20, .null), (14, .aload_n 0, 15, 0, .null), (15, .iconst 1, 16, 0, .int (nI 1)), (16, .invokevirtual 74, 19, 0, .null), (19, .ireturn, 20, 0, .null), (20, .iload_n 1, 21, 0, .null), (21, .ifCond .ne 10, 24, 31, .null), (24, .aload_n 0, 25, 0, .null), (25, .getfield 61, 28, 0, .null), (28, .goto 19, 31, 47, .null), (31, .iload_n 1, 32, 0, .null), (32, .iconst 1, 33, 0, .int (nI 1)), (33, .if_icmp .ne 10, 36, 43, .null), (36, .aload_n 0, 37, 0, .null), (37, .getfield 68, 40, 0, .null), (40, .goto 7, 43, 47, .null), (43, .aload_n 0, 44, 0, .null), (44, .getfield 71, 47, 0, .null), (47, .ireturn, 48, 0, .null)]
set_option maxRecDepth 100000 in
theorem ok_MO_count_0 : r_MO_count_0.all (am_okRowb "TraceAlignerModel" prog_7_method_15_code am_big) = true := by decide +kernel
def r_MO_count : List am_Row := r_MO_count_0
def E_MO_count : am_E := (am_G0, (F_MO, N_MO, C_MO), m_MO_count, r_MO_count)
theorem e_MO_count : am_okE E_MO_count := ⟨am_big_good, okT_MO, am_okRow_of ok_MO_count_0⟩
set_option maxRecDepth 100000 in
def r_MO_label_0 : List am_Row := [(0, .aload_n 0, 1, 0, .null), (1, .iconst 0, 2, 0, .int (nI 0)), (2, .putfield 57, 5, 0, .null), (5, .aload_n 0, 6, 0, .null), (6, .iload_n 1, 7, 0, .null), (7, .invokevirtual 86, 10, 0, .null), (10, .ifCond .eq 12, 13, 22, .null), (13, .aload_n 0, 14, 0, .null), (14, .getfield 11, 17, 0, .null), (17, .iload_n 1, 18, 0, .null), (18, .iaload, 19, 0, .null), (19, .goto 8, 22, 27, .null), (22, .aload_n 0, 23, 0, .null), (23, .iconst 1, 24, 0, .int (nI 1)), (24, .invokevirtual 74, 27, 0, .null), (27, .ireturn, 28, 0, .null)]
set_option maxRecDepth 100000 in
theorem ok_MO_label_0 : r_MO_label_0.all (am_okRowb "TraceAlignerModel" prog_7_method_16_code am_big) = true := by decide +kernel
def r_MO_label : List am_Row := r_MO_label_0
def E_MO_label : am_E := (am_G0, (F_MO, N_MO, C_MO), m_MO_label, r_MO_label)
theorem e_MO_label : am_okE E_MO_label := ⟨am_big_good, okT_MO, am_okRow_of ok_MO_label_0⟩
set_option maxRecDepth 100000 in
def r_MO_numberOf_0 : List am_Row := [(0, .iconst 0, 1, 0, .int (nI 0)), (1, .istore_n 2, 2, 0, .null), (2, .iload_n 2, 3, 0, .null), (3, .aload_n 0, 4, 0, .null), (4, .getfield 106, 7, 0, .null), (7, .if_icmp .ge 21, 10, 28, .null), (10, .aload_n 0, 11, 0, .null), (11, .getfield 39, 14, 0, .null), (14, .iload_n 2, 15, 0, .null), (15, .iaload, 16, 0, .null), (16, .iload_n 1, 17, 0, .null), (17, .if_icmp .ne 5, 20, 22, .null), (20, .iload_n 2, 21, 0, .null), (21, .ireturn, 22, 0, .null), (22, .iinc 2 1, 25, 0, .int (nI 1)), (25, .goto (-23), 28, 2, .null), (28, .iconst (-1), 29, 0, .int (-1)), (29, .ireturn, 30, 0, .null)]
set_option maxRecDepth 100000 in
theorem ok_MO_numberOf_0 : r_MO_numberOf_0.all (am_okRowb "TraceAlignerModel" prog_7_method_18_code am_big) = true := by decide +kernel
def r_MO_numberOf : List am_Row := r_MO_numberOf_0
def E_MO_numberOf : am_E := (am_G0, (F_MO, N_MO, C_MO), m_MO_numberOf, r_MO_numberOf)
theorem e_MO_numberOf : am_okE E_MO_numberOf := ⟨am_big_good, okT_MO, am_okRow_of ok_MO_numberOf_0⟩
set_option maxRecDepth 100000 in
def r_MO_look_0 : List am_Row := [(0, .aload_n 0, 1, 0, .null), (1, .getfield 78, 4, 0, .null), (4, .ifCond .eq 4, 7, 8, .null), (7, .return_, 8, 0, .null), (8, .aload_n 0, 9, 0, .null), (9, .iconst 1, 10, 0, .int (nI 1)), (10, .putfield 78, 13, 0, .null), (13, .aload_n 0, 14, 0, .null), (14, .iconst 0, 15, 0, .int (nI 0)), (15, .putfield 109, 18, 0, .null), (18, .aload_n 0, 19, 0, .null), (19, .getfield 39, 22, 0, .null), (22, .iconst 0, 23, 0, .int (nI 0)), (23, .aload_n 0, 24, 0, .null), (24, .getfield 99, 27, 0, .null), (27, .iastore, 28, 0, .null), (28, .aload_n 0, 29, 0, .null), (29, .iconst 1, 30, 0, .int (nI 1)), (30, .putfield 106, 33, 0, .null), (33, .iconst 0, 34, 0, .int (nI 0)), (34, .istore_n 1, 35, 0, .null), (35, .iload_n 1, 36, 0, .null), (36, .aload_n 0, 37, 0, .null), (37, .getfield 106, 40, 0, .null), (40, .if_icmp .ge 119, 43, 159, .null), (43, .iconst 0, 44, 0, .int (nI 0)), (44, .istore_n 2, 45, 0, .null), (45, .iload_n 2, 46, 0, .null), (46, .aload_n 0, 47, 0, .null), (47, .getfield 68, 50, 0, .null), (50, .if_icmp .ge 103, 53, 153, .null), (53, .aload_n 0, 54, 0, .null), (54, .aload_n 0, 55, 0, .null), (55, .getfield 39, 58, 0, .null), (58, .iload_n 1, 59, 0, .null), (59, .iaload, 60, 0, .null), (60, .iload_n 2, 61, 0, .null), (61, .invokevirtual 112, 64, 0, .null), (64, .istore_n 3, 65, 0, .null), (65, .iload_n 3, 66, 0, .null)]
set_option maxRecDepth 100000 in
theorem ok_MO_look_0 : r_MO_look_0.all (am_okRowb "TraceAlignerModel" prog_7_method_19_code am_big) = true := by decide +kernel
set_option maxRecDepth 100000 in
def r_MO_look_1 : List am_Row := [(66, .iconst (-1), 67, 0, .int (-1)), (67, .if_icmp .ne 7, 70, 74, .null), (70, .iconst (-1), 71, 0, .int (-1)), (71, .goto 8, 74, 79, .null), (74, .aload_n 0, 75, 0, .null), (75, .iload_n 3, 76, 0, .null), (76, .invokevirtual 115, 79, 0, .null), (79, .istore 4, 81, 0, .null), (81, .iload_n 3, 82, 0, .null), (82, .iconst (-1), 83, 0, .int (-1)), (83, .if_icmp .eq 51, 86, 134, .null), (86, .iload 4, 88, 0, .null), (88, .iconst (-1), 89, 0, .int (-1)), (89, .if_icmp .ne 45, 92, 134, .null), (92, .aload_n 0, 93, 0, .null), (93, .getfield 106, 96, 0, .null), (96, .sipush 200, 99, 0, .int (nI 200)), (99, .if_icmp .ne 9, 102, 108, .null), (102, .aload_n 0, 103, 0, .null), (103, .iconst 1, 104, 0, .int (nI 1)), (104, .putfield 109, 107, 0, .null), (107, .return_, 108, 0, .null), (108, .aload_n 0, 109, 0, .null), (109, .getfield 39, 112, 0, .null), (112, .aload_n 0, 113, 0, .null), (113, .getfield 106, 116, 0, .null), (116, .iload_n 3, 117, 0, .null), (117, .iastore, 118, 0, .null), (118, .aload_n 0, 119, 0, .null), (119, .getfield 106, 122, 0, .null), (122, .istore 4, 124, 0, .null), (124, .aload_n 0, 125, 0, .null), (125, .dup, 126, 0, .null), (126, .getfield 106, 129, 0, .null), (129, .iconst 1, 130, 0, .int (nI 1)), (130, .iadd, 131, 0, .null), (131, .putfield 106, 134, 0, .null), (134, .aload_n 0, 135, 0, .null), (135, .getfield 42, 138, 0, .null), (138, .bipush 10, 140, 0, .int (nI 10))]
set_option maxRecDepth 100000 in
theorem ok_MO_look_1 : r_MO_look_1.all (am_okRowb "TraceAlignerModel" prog_7_method_19_code am_big) = true := by decide +kernel
set_option maxRecDepth 100000 in
def r_MO_look_2 : List am_Row := [(140, .iload_n 1, 141, 0, .null), (141, .imul, 142, 0, .null), (142, .iload_n 2, 143, 0, .null), (143, .iadd, 144, 0, .null), (144, .iload 4, 146, 0, .null), (146, .iastore, 147, 0, .null), (147, .iinc 2 1, 150, 0, .int (nI 1)), (150, .goto (-105), 153, 45, .null), (153, .iinc 1 1, 156, 0, .int (nI 1)), (156, .goto (-121), 159, 35, .null), (159, .return_, 160, 0, .null)]
set_option maxRecDepth 100000 in
theorem ok_MO_look_2 : r_MO_look_2.all (am_okRowb "TraceAlignerModel" prog_7_method_19_code am_big) = true := by decide +kernel
def r_MO_look : List am_Row := r_MO_look_0 ++ (r_MO_look_1 ++ (r_MO_look_2))
def E_MO_look : am_E := (am_G0, (F_MO, N_MO, C_MO), m_MO_look, r_MO_look)
theorem e_MO_look : am_okE E_MO_look := ⟨am_big_good, okT_MO, am_okRow_of (am_all_app ok_MO_look_0 (am_all_app ok_MO_look_1 ok_MO_look_2))⟩
set_option maxRecDepth 100000 in
def r_MO_markings_0 : List am_Row := [(0, .aload_n 0, 1, 0, .null), (1, .iconst 0, 2, 0, .int (nI 0)), (2, .putfield 57, 5, 0, .null), (5, .aload_n 0, 6, 0, .null), (6, .invokevirtual 118, 9, 0, .null), (9, .aload_n 0, 10, 0, .null), (10, .getfield 109, 13, 0, .null), (13, .ifCond .eq 7, 16, 20, .null), (16, .iconst (-1), 17, 0, .int (-1)), (17, .goto 7, 20, 24, .null), (20, .aload_n 0, 21, 0, .null), (21, .getfield 106, 24, 0, .null), (24, .ireturn, 25, 0, .null)]
set_option maxRecDepth 100000 in
theorem ok_MO_markings_0 : r_MO_markings_0.all (am_okRowb "TraceAlignerModel" prog_7_method_20_code am_big) = true := by decide +kernel
def r_MO_markings : List am_Row := r_MO_markings_0
def E_MO_markings : am_E := (am_G0, (F_MO, N_MO, C_MO), m_MO_markings, r_MO_markings)
theorem e_MO_markings : am_okE E_MO_markings := ⟨am_big_good, okT_MO, am_okRow_of ok_MO_markings_0⟩
set_option maxRecDepth 100000 in
def r_MO_asks_0 : List am_Row := [(0, .aload_n 0, 1, 0, .null), (1, .invokevirtual 118, 4, 0, .null), (4, .aload_n 0, 5, 0, .null), (5, .aload_n 0, 6, 0, .null), (6, .getfield 109, 9, 0, .null), (9, .ifCond .eq 7, 12, 16, .null), (12, .iconst 1, 13, 0, .int (nI 1)), (13, .goto 22, 16, 35, .null), (16, .iload_n 1, 17, 0, .null), (17, .iconst 0, 18, 0, .int (nI 0)), (18, .aload_n 0, 19, 0, .null), (19, .getfield 106, 22, 0, .null), (22, .iconst 1, 23, 0, .int (nI 1)), (23, .isub, 24, 0, .null), (24, .invokestatic 64, 27, 0, .null), (27, .ifCond .ne 7, 30, 34, .null), (30, .iconst 2, 31, 0, .int (nI 2)), (31, .goto 4, 34, 35, .null), (34, .iconst 0, 35, 0, .int (nI 0)), (35, .putfield 57, 38, 0, .null), (38, .aload_n 0, 39, 0, .null), (39, .getfield 57, 42, 0, .null), (42, .ifCond .ne 7, 45, 49, .null), (45, .iconst 1, 46, 0, .int (nI 1)), (46, .goto 4, 49, 50, .null), (49, .iconst 0, 50, 0, .int (nI 0)), (50, .ireturn, 51, 0, .null)]
set_option maxRecDepth 100000 in
theorem ok_MO_asks_0 : r_MO_asks_0.all (am_okRowb "TraceAlignerModel" prog_7_method_21_code am_big) = true := by decide +kernel
def r_MO_asks : List am_Row := r_MO_asks_0
def E_MO_asks : am_E := (am_G0, (F_MO, N_MO, C_MO), m_MO_asks, r_MO_asks)
theorem e_MO_asks : am_okE E_MO_asks := ⟨am_big_good, okT_MO, am_okRow_of ok_MO_asks_0⟩
set_option maxRecDepth 100000 in
def r_MO_tokens_0 : List am_Row := [(0, .aload_n 0, 1, 0, .null), (1, .iload_n 1, 2, 0, .null), (2, .invokevirtual 121, 5, 0, .null), (5, .ifCond .ne 5, 8, 10, .null), (8, .iconst 0, 9, 0, .int (nI 0)), (9, .ireturn, 10, 0, .null), (10, .aload_n 0, 11, 0, .null), (11, .iload_n 2, 12, 0, .null), (12, .invokevirtual 89, 15, 0, .null), (15, .ifCond .eq 16, 18, 31, .null), (18, .aload_n 0, 19, 0, .null), (19, .getfield 39, 22, 0, .null), (22, .iload_n 1, 23, 0, .null), (23, .iaload, 24, 0, .null), (24, .iload_n 2, 25, 0, .null), (25, .invokestatic 102, 28, 0, .null), (28, .goto 8, 31, 36, .null), (31, .aload_n 0, 32, 0, .null), (32, .iconst 2, 33, 0, .int (nI 2)), (33, .invokevirtual 74, 36, 0, .null), (36, .ireturn, 37, 0, .null)]
set_option maxRecDepth 100000 in
theorem ok_MO_tokens_0 : r_MO_tokens_0.all (am_okRowb "TraceAlignerModel" prog_7_method_22_code am_big) = true := by decide +kernel
def r_MO_tokens : List am_Row := r_MO_tokens_0
def E_MO_tokens : am_E := (am_G0, (F_MO, N_MO, C_MO), m_MO_tokens, r_MO_tokens)
theorem e_MO_tokens : am_okE E_MO_tokens := ⟨am_big_good, okT_MO, am_okRow_of ok_MO_tokens_0⟩
set_option maxRecDepth 100000 in
def r_MO_enabledIn_0 : List am_Row := [(0, .iconst 0, 1, 0, .int (nI 0)), (1, .istore_n 2, 2, 0, .null), (2, .iconst 0, 3, 0, .int (nI 0)), (3, .istore_n 3, 4, 0, .null), (4, .iload_n 3, 5, 0, .null), (5, .aload_n 0, 6, 0, .null), (6, .getfield 68, 9, 0, .null), (9, .if_icmp .ge 30, 12, 39, .null), (12, .aload_n 0, 13, 0, .null), (13, .getfield 42, 16, 0, .null), (16, .bipush 10, 18, 0, .int (nI 10)), (18, .iload_n 1, 19, 0, .null), (19, .imul, 20, 0, .null), (20, .iload_n 3, 21, 0, .null), (21, .iadd, 22, 0, .null), (22, .iaload, 23, 0, .null), (23, .iconst (-1), 24, 0, .int (-1)), (24, .if_icmp .eq 9, 27, 33, .null), (27, .iload_n 2, 28, 0, .null), (28, .iconst 1, 29, 0, .int (nI 1)), (29, .iload_n 3, 30, 0, .null), (30, .ishl, 31, 0, .null), (31, .ior, 32, 0, .null), (32, .istore_n 2, 33, 0, .null), (33, .iinc 3 1, 36, 0, .int (nI 1)), (36, .goto (-32), 39, 4, .null), (39, .iload_n 2, 40, 0, .null), (40, .ireturn, 41, 0, .null)]
set_option maxRecDepth 100000 in
theorem ok_MO_enabledIn_0 : r_MO_enabledIn_0.all (am_okRowb "TraceAlignerModel" prog_7_method_23_code am_big) = true := by decide +kernel
def r_MO_enabledIn : List am_Row := r_MO_enabledIn_0
def E_MO_enabledIn : am_E := (am_G0, (F_MO, N_MO, C_MO), m_MO_enabledIn, r_MO_enabledIn)
theorem e_MO_enabledIn : am_okE E_MO_enabledIn := ⟨am_big_good, okT_MO, am_okRow_of ok_MO_enabledIn_0⟩
set_option maxRecDepth 100000 in
def r_MO_enabled_0 : List am_Row := [(0, .aload_n 0, 1, 0, .null), (1, .iload_n 1, 2, 0, .null), (2, .invokevirtual 121, 5, 0, .null), (5, .ifCond .eq 11, 8, 16, .null), (8, .aload_n 0, 9, 0, .null), (9, .iload_n 1, 10, 0, .null), (10, .invokevirtual 124, 13, 0, .null), (13, .goto 4, 16, 17, .null), (16, .iconst 0, 17, 0, .int (nI 0)), (17, .ireturn, 18, 0, .null)]
set_option maxRecDepth 100000 in
theorem ok_MO_enabled_0 : r_MO_enabled_0.all (am_okRowb "TraceAlignerModel" prog_7_method_24_code am_big) = true := by decide +kernel
def r_MO_enabled : List am_Row := r_MO_enabled_0
def E_MO_enabled : am_E := (am_G0, (F_MO, N_MO, C_MO), m_MO_enabled, r_MO_enabled)
theorem e_MO_enabled : am_okE E_MO_enabled := ⟨am_big_good, okT_MO, am_okRow_of ok_MO_enabled_0⟩
set_option maxRecDepth 100000 in
def r_MO_next_0 : List am_Row := [(0, .aload_n 0, 1, 0, .null), (1, .iload_n 1, 2, 0, .null), (2, .invokevirtual 121, 5, 0, .null), (5, .ifCond .ne 5, 8, 10, .null), (8, .iconst 0, 9, 0, .int (nI 0)), (9, .ireturn, 10, 0, .null), (10, .aload_n 0, 11, 0, .null), (11, .iload_n 2, 12, 0, .null), (12, .invokevirtual 86, 15, 0, .null), (15, .ifCond .eq 17, 18, 32, .null), (18, .aload_n 0, 19, 0, .null), (19, .getfield 42, 22, 0, .null), (22, .bipush 10, 24, 0, .int (nI 10)), (24, .iload_n 1, 25, 0, .null), (25, .imul, 26, 0, .null), (26, .iload_n 2, 27, 0, .null), (27, .iadd, 28, 0, .null), (28, .iaload, 29, 0, .null), (29, .goto 8, 32, 37, .null), (32, .aload_n 0, 33, 0, .null), (33, .iconst 2, 34, 0, .int (nI 2)), (34, .invokevirtual 74, 37, 0, .null), (37, .ireturn, 38, 0, .null)]
set_option maxRecDepth 100000 in
theorem ok_MO_next_0 : r_MO_next_0.all (am_okRowb "TraceAlignerModel" prog_7_method_25_code am_big) = true := by decide +kernel
def r_MO_next : List am_Row := r_MO_next_0
def E_MO_next : am_E := (am_G0, (F_MO, N_MO, C_MO), m_MO_next, r_MO_next)
theorem e_MO_next : am_okE E_MO_next := ⟨am_big_good, okT_MO, am_okRow_of ok_MO_next_0⟩
set_option maxRecDepth 100000 in
def r_MO_last_0 : List am_Row := [(0, .aload_n 0, 1, 0, .null), (1, .iconst 0, 2, 0, .int (nI 0)), (2, .invokevirtual 121, 5, 0, .null), (5, .ifCond .eq 14, 8, 19, .null), (8, .aload_n 0, 9, 0, .null), (9, .aload_n 0, 10, 0, .null), (10, .getfield 96, 13, 0, .null), (13, .invokevirtual 115, 16, 0, .null), (16, .goto 4, 19, 20, .null), (19, .iconst 0, 20, 0, .int (nI 0)), (20, .ireturn, 21, 0, .null)]
set_option maxRecDepth 100000 in
theorem ok_MO_last_0 : r_MO_last_0.all (am_okRowb "TraceAlignerModel" prog_7_method_26_code am_big) = true := by decide +kernel
def r_MO_last : List am_Row := r_MO_last_0
def E_MO_last : am_E := (am_G0, (F_MO, N_MO, C_MO), m_MO_last, r_MO_last)
theorem e_MO_last : am_okE E_MO_last := ⟨am_big_good, okT_MO, am_okRow_of ok_MO_last_0⟩
set_option maxRecDepth 100000 in
def r_MO_dead_0 : List am_Row := [(0, .aload_n 0, 1, 0, .null), (1, .iconst 0, 2, 0, .int (nI 0)), (2, .invokevirtual 121, 5, 0, .null), (5, .ifCond .ne 5, 8, 10, .null), (8, .iconst 0, 9, 0, .int (nI 0)), (9, .ireturn, 10, 0, .null), (10, .iconst 0, 11, 0, .int (nI 0)), (11, .istore_n 1, 12, 0, .null), (12, .iconst 0, 13, 0, .int (nI 0)), (13, .istore_n 2, 14, 0, .null), (14, .iload_n 2, 15, 0, .null), (15, .aload_n 0, 16, 0, .null), (16, .getfield 106, 19, 0, .null), (19, .if_icmp .ge 38, 22, 57, .null), (22, .iload_n 1, 23, 0, .null), (23, .aload_n 0, 24, 0, .null), (24, .getfield 39, 27, 0, .null), (27, .iload_n 2, 28, 0, .null), (28, .iaload, 29, 0, .null), (29, .aload_n 0, 30, 0, .null), (30, .getfield 96, 33, 0, .null), (33, .if_icmp .eq 15, 36, 48, .null), (36, .aload_n 0, 37, 0, .null), (37, .iload_n 2, 38, 0, .null), (38, .invokevirtual 124, 41, 0, .null), (41, .ifCond .ne 7, 44, 48, .null), (44, .iconst 1, 45, 0, .int (nI 1)), (45, .goto 4, 48, 49, .null), (48, .iconst 0, 49, 0, .int (nI 0)), (49, .iadd, 50, 0, .null), (50, .istore_n 1, 51, 0, .null), (51, .iinc 2 1, 54, 0, .int (nI 1)), (54, .goto (-40), 57, 14, .null), (57, .iload_n 1, 58, 0, .null), (58, .ireturn, 59, 0, .null)]
set_option maxRecDepth 100000 in
theorem ok_MO_dead_0 : r_MO_dead_0.all (am_okRowb "TraceAlignerModel" prog_7_method_27_code am_big) = true := by decide +kernel
def r_MO_dead : List am_Row := r_MO_dead_0
def E_MO_dead : am_E := (am_G0, (F_MO, N_MO, C_MO), m_MO_dead, r_MO_dead)
theorem e_MO_dead : am_okE E_MO_dead := ⟨am_big_good, okT_MO, am_okRow_of ok_MO_dead_0⟩
set_option maxRecDepth 100000 in
def r_MO_live_0 : List am_Row := [(0, .aload_n 0, 1, 0, .null), (1, .iconst 0, 2, 0, .int (nI 0)), (2, .invokevirtual 121, 5, 0, .null), (5, .ifCond .ne 5, 8, 10, .null), (8, .iconst 0, 9, 0, .int (nI 0)), (9, .ireturn, 10, 0, .null), (10, .iconst 0, 11, 0, .int (nI 0)), (11, .istore_n 1, 12, 0, .null), (12, .iconst 0, 13, 0, .int (nI 0)), (13, .istore_n 2, 14, 0, .null), (14, .iload_n 2, 15, 0, .null), (15, .aload_n 0, 16, 0, .null), (16, .getfield 106, 19, 0, .null), (19, .if_icmp .ge 17, 22, 36, .null), (22, .iload_n 1, 23, 0, .null), (23, .aload_n 0, 24, 0, .null), (24, .iload_n 2, 25, 0, .null), (25, .invokevirtual 124, 28, 0, .null), (28, .ior, 29, 0, .null), (29, .istore_n 1, 30, 0, .null), (30, .iinc 2 1, 33, 0, .int (nI 1)), (33, .goto (-19), 36, 14, .null), (36, .iload_n 1, 37, 0, .null), (37, .ireturn, 38, 0, .null)]
set_option maxRecDepth 100000 in
theorem ok_MO_live_0 : r_MO_live_0.all (am_okRowb "TraceAlignerModel" prog_7_method_28_code am_big) = true := by decide +kernel
def r_MO_live : List am_Row := r_MO_live_0
def E_MO_live : am_E := (am_G0, (F_MO, N_MO, C_MO), m_MO_live, r_MO_live)
theorem e_MO_live : am_okE E_MO_live := ⟨am_big_good, okT_MO, am_okRow_of ok_MO_live_0⟩
set_option maxRecDepth 100000 in
def r_MO_away_0 : List am_Row := [(0, .aload_n 0, 1, 0, .null), (1, .iload_n 1, 2, 0, .null), (2, .invokevirtual 121, 5, 0, .null), (5, .ifCond .ne 5, 8, 10, .null), (8, .iconst 0, 9, 0, .int (nI 0)), (9, .ireturn, 10, 0, .null), (10, .sipush 200, 13, 0, .int (nI 200)), (13, .newarray .boolean, 15, 0, .null), (15, .astore_n 2, 16, 0, .null), (16, .aload_n 2, 17, 0, .null), (17, .iload_n 1, 18, 0, .null), (18, .iconst 1, 19, 0, .int (nI 1)), (19, .bastore, 20, 0, .null), (20, .aload_n 0, 21, 0, .null), (21, .aload_n 0, 22, 0, .null), (22, .getfield 96, 25, 0, .null), (25, .invokevirtual 115, 28, 0, .null), (28, .istore_n 3, 29, 0, .null), (29, .iconst 0, 30, 0, .int (nI 0)), (30, .istore 4, 32, 0, .null), (32, .iload 4, 34, 0, .null), (34, .aload_n 0, 35, 0, .null), (35, .getfield 106, 38, 0, .null), (38, .if_icmp .gt 119, 41, 157, .null), (41, .iload_n 3, 42, 0, .null), (42, .iconst (-1), 43, 0, .int (-1)), (43, .if_icmp .eq 114, 46, 157, .null), (46, .aload_n 2, 47, 0, .null), (47, .iload_n 3, 48, 0, .null), (48, .baload, 49, 0, .null), (49, .ifCond .eq 6, 52, 55, .null), (52, .iload 4, 54, 0, .null), (54, .ireturn, 55, 0, .null), (55, .sipush 200, 58, 0, .int (nI 200)), (58, .newarray .boolean, 60, 0, .null), (60, .astore 5, 62, 0, .null), (62, .iconst 0, 63, 0, .int (nI 0)), (63, .istore 6, 65, 0, .null), (65, .iload 6, 67, 0, .null), (67, .aload_n 0, 68, 0, .null)]
set_option maxRecDepth 100000 in
theorem ok_MO_away_0 : r_MO_away_0.all (am_okRowb "TraceAlignerModel" prog_7_method_29_code am_big) = true := by decide +kernel
set_option maxRecDepth 100000 in
def r_MO_away_1 : List am_Row := [(68, .getfield 106, 71, 0, .null), (71, .if_icmp .ge 77, 74, 148, .null), (74, .aload_n 2, 75, 0, .null), (75, .iload 6, 77, 0, .null), (77, .baload, 78, 0, .null), (78, .ifCond .ne 6, 81, 84, .null), (81, .goto 61, 84, 142, .null), (84, .aload 5, 86, 0, .null), (86, .iload 6, 88, 0, .null), (88, .iconst 1, 89, 0, .int (nI 1)), (89, .bastore, 90, 0, .null), (90, .iconst 0, 91, 0, .int (nI 0)), (91, .istore 7, 93, 0, .null), (93, .iload 7, 95, 0, .null), (95, .aload_n 0, 96, 0, .null), (96, .getfield 68, 99, 0, .null), (99, .if_icmp .ge 43, 102, 142, .null), (102, .aload_n 0, 103, 0, .null), (103, .getfield 42, 106, 0, .null), (106, .bipush 10, 108, 0, .int (nI 10)), (108, .iload 6, 110, 0, .null), (110, .imul, 111, 0, .null), (111, .iload 7, 113, 0, .null), (113, .iadd, 114, 0, .null), (114, .iaload, 115, 0, .null), (115, .iconst (-1), 116, 0, .int (-1)), (116, .if_icmp .eq 20, 119, 136, .null), (119, .aload 5, 121, 0, .null), (121, .aload_n 0, 122, 0, .null), (122, .getfield 42, 125, 0, .null), (125, .bipush 10, 127, 0, .int (nI 10)), (127, .iload 6, 129, 0, .null), (129, .imul, 130, 0, .null), (130, .iload 7, 132, 0, .null), (132, .iadd, 133, 0, .null), (133, .iaload, 134, 0, .null), (134, .iconst 1, 135, 0, .int (nI 1)), (135, .bastore, 136, 0, .null), (136, .iinc 7 1, 139, 0, .int (nI 1)), (139, .goto (-46), 142, 93, .null)]
set_option maxRecDepth 100000 in
theorem ok_MO_away_1 : r_MO_away_1.all (am_okRowb "TraceAlignerModel" prog_7_method_29_code am_big) = true := by decide +kernel
set_option maxRecDepth 100000 in
def r_MO_away_2 : List am_Row := [(142, .iinc 6 1, 145, 0, .int (nI 1)), (145, .goto (-80), 148, 65, .null), (148, .aload 5, 150, 0, .null), (150, .astore_n 2, 151, 0, .null), (151, .iinc 4 1, 154, 0, .int (nI 1)), (154, .goto (-122), 157, 32, .null), (157, .iconst (-1), 158, 0, .int (-1)), (158, .ireturn, 159, 0, .null)]
set_option maxRecDepth 100000 in
theorem ok_MO_away_2 : r_MO_away_2.all (am_okRowb "TraceAlignerModel" prog_7_method_29_code am_big) = true := by decide +kernel
def r_MO_away : List am_Row := r_MO_away_0 ++ (r_MO_away_1 ++ (r_MO_away_2))
def E_MO_away : am_E := (am_G0, (F_MO, N_MO, C_MO), m_MO_away, r_MO_away)
theorem e_MO_away : am_okE E_MO_away := ⟨am_big_good, okT_MO, am_okRow_of (am_all_app ok_MO_away_0 (am_all_app ok_MO_away_1 ok_MO_away_2))⟩
set_option maxRecDepth 100000 in
def r_MO_event_0 : List am_Row := [(0, .aload_n 0, 1, 0, .null), (1, .iconst 0, 2, 0, .int (nI 0)), (2, .putfield 57, 5, 0, .null), (5, .iload_n 1, 6, 0, .null), (6, .invokestatic 82, 9, 0, .null), (9, .ifCond .ne 9, 12, 18, .null), (12, .aload_n 0, 13, 0, .null), (13, .iconst 1, 14, 0, .int (nI 1)), (14, .invokevirtual 74, 17, 0, .null), (17, .ireturn, 18, 0, .null), (18, .aload_n 0, 19, 0, .null), (19, .getfield 127, 22, 0, .null), (22, .bipush 8, 24, 0, .int (nI 8)), (24, .if_icmp .ne 9, 27, 33, .null), (27, .aload_n 0, 28, 0, .null), (28, .iconst 2, 29, 0, .int (nI 2)), (29, .invokevirtual 74, 32, 0, .null), (32, .ireturn, 33, 0, .null), (33, .aload_n 0, 34, 0, .null), (34, .getfield 27, 37, 0, .null), (37, .aload_n 0, 38, 0, .null), (38, .getfield 127, 41, 0, .null), (41, .iload_n 1, 42, 0, .null), (42, .iastore, 43, 0, .null), (43, .aload_n 0, 44, 0, .null), (44, .dup, 45, 0, .null), (45, .getfield 127, 48, 0, .null), (48, .iconst 1, 49, 0, .int (nI 1)), (49, .iadd, 50, 0, .null), (50, .putfield 127, 53, 0, .null), (53, .aload_n 0, 54, 0, .null), (54, .getfield 127, 57, 0, .null), (57, .ireturn, 58, 0, .null)]
set_option maxRecDepth 100000 in
theorem ok_MO_event_0 : r_MO_event_0.all (am_okRowb "TraceAlignerModel" prog_7_method_30_code am_big) = true := by decide +kernel
def r_MO_event : List am_Row := r_MO_event_0
def E_MO_event : am_E := (am_G0, (F_MO, N_MO, C_MO), m_MO_event, r_MO_event)
theorem e_MO_event : am_okE E_MO_event := ⟨am_big_good, okT_MO, am_okRow_of ok_MO_event_0⟩
set_option maxRecDepth 100000 in
def r_MO_store_0 : List am_Row := [(0, .aload_n 0, 1, 0, .null), (1, .iconst 0, 2, 0, .int (nI 0)), (2, .putfield 57, 5, 0, .null), (5, .iload_n 1, 6, 0, .null), (6, .iconst 0, 7, 0, .int (nI 0)), (7, .bipush 99, 9, 0, .int (nI 99)), (9, .invokestatic 64, 12, 0, .null), (12, .ifCond .ne 9, 15, 21, .null), (15, .aload_n 0, 16, 0, .null), (16, .iconst 1, 17, 0, .int (nI 1)), (17, .invokevirtual 74, 20, 0, .null), (20, .ireturn, 21, 0, .null), (21, .aload_n 0, 22, 0, .null), (22, .getfield 71, 25, 0, .null), (25, .bipush 8, 27, 0, .int (nI 8)), (27, .if_icmp .ne 9, 30, 36, .null), (30, .aload_n 0, 31, 0, .null), (31, .iconst 2, 32, 0, .int (nI 2)), (32, .invokevirtual 74, 35, 0, .null), (35, .ireturn, 36, 0, .null), (36, .aload_n 0, 37, 0, .null), (37, .getfield 30, 40, 0, .null), (40, .aload_n 0, 41, 0, .null), (41, .getfield 71, 44, 0, .null), (44, .iload_n 1, 45, 0, .null), (45, .iastore, 46, 0, .null), (46, .aload_n 0, 47, 0, .null), (47, .getfield 33, 50, 0, .null), (50, .aload_n 0, 51, 0, .null), (51, .getfield 71, 54, 0, .null), (54, .aload_n 0, 55, 0, .null), (55, .getfield 127, 58, 0, .null), (58, .iastore, 59, 0, .null), (59, .iconst 0, 60, 0, .int (nI 0)), (60, .istore_n 2, 61, 0, .null), (61, .iload_n 2, 62, 0, .null), (62, .aload_n 0, 63, 0, .null), (63, .getfield 127, 66, 0, .null), (66, .if_icmp .ge 29, 69, 95, .null), (69, .aload_n 0, 70, 0, .null)]
set_option maxRecDepth 100000 in
theorem ok_MO_store_0 : r_MO_store_0.all (am_okRowb "TraceAlignerModel" prog_7_method_31_code am_big) = true := by decide +kernel
set_option maxRecDepth 100000 in
def r_MO_store_1 : List am_Row := [(70, .getfield 36, 73, 0, .null), (73, .bipush 8, 75, 0, .int (nI 8)), (75, .aload_n 0, 76, 0, .null), (76, .getfield 71, 79, 0, .null), (79, .imul, 80, 0, .null), (80, .iload_n 2, 81, 0, .null), (81, .iadd, 82, 0, .null), (82, .aload_n 0, 83, 0, .null), (83, .getfield 27, 86, 0, .null), (86, .iload_n 2, 87, 0, .null), (87, .iaload, 88, 0, .null), (88, .iastore, 89, 0, .null), (89, .iinc 2 1, 92, 0, .int (nI 1)), (92, .goto (-31), 95, 61, .null), (95, .aload_n 0, 96, 0, .null), (96, .iconst 0, 97, 0, .int (nI 0)), (97, .putfield 127, 100, 0, .null), (100, .aload_n 0, 101, 0, .null), (101, .dup, 102, 0, .null), (102, .getfield 71, 105, 0, .null), (105, .iconst 1, 106, 0, .int (nI 1)), (106, .iadd, 107, 0, .null), (107, .putfield 71, 110, 0, .null), (110, .aload_n 0, 111, 0, .null), (111, .getfield 71, 114, 0, .null), (114, .iconst 1, 115, 0, .int (nI 1)), (115, .isub, 116, 0, .null), (116, .ireturn, 117, 0, .null)]
set_option maxRecDepth 100000 in
theorem ok_MO_store_1 : r_MO_store_1.all (am_okRowb "TraceAlignerModel" prog_7_method_31_code am_big) = true := by decide +kernel
def r_MO_store : List am_Row := r_MO_store_0 ++ (r_MO_store_1)
def E_MO_store : am_E := (am_G0, (F_MO, N_MO, C_MO), m_MO_store, r_MO_store)
theorem e_MO_store : am_okE E_MO_store := ⟨am_big_good, okT_MO, am_okRow_of (am_all_app ok_MO_store_0 ok_MO_store_1)⟩
set_option maxRecDepth 100000 in
def r_MO_dropTrace_0 : List am_Row := [(0, .aload_n 0, 1, 0, .null), (1, .iconst 0, 2, 0, .int (nI 0)), (2, .putfield 57, 5, 0, .null), (5, .aload_n 0, 6, 0, .null), (6, .getfield 71, 9, 0, .null), (9, .ifCond .ne 9, 12, 18, .null), (12, .aload_n 0, 13, 0, .null), (13, .iconst 1, 14, 0, .int (nI 1)), (14, .invokevirtual 74, 17, 0, .null), (17, .ireturn, 18, 0, .null), (18, .aload_n 0, 19, 0, .null), (19, .dup, 20, 0, .null), (20, .getfield 71, 23, 0, .null), (23, .iconst 1, 24, 0, .int (nI 1)), (24, .isub, 25, 0, .null), (25, .putfield 71, 28, 0, .null), (28, .aload_n 0, 29, 0, .null), (29, .getfield 71, 32, 0, .null), (32, .ireturn, 33, 0, .null)]
set_option maxRecDepth 100000 in
theorem ok_MO_dropTrace_0 : r_MO_dropTrace_0.all (am_okRowb "TraceAlignerModel" prog_7_method_32_code am_big) = true := by decide +kernel
def r_MO_dropTrace : List am_Row := r_MO_dropTrace_0
def E_MO_dropTrace : am_E := (am_G0, (F_MO, N_MO, C_MO), m_MO_dropTrace, r_MO_dropTrace)
theorem e_MO_dropTrace : am_okE E_MO_dropTrace := ⟨am_big_good, okT_MO, am_okRow_of ok_MO_dropTrace_0⟩
set_option maxRecDepth 100000 in
def r_MO_length_0 : List am_Row := [(0, .aload_n 0, 1, 0, .null), (1, .iconst 0, 2, 0, .int (nI 0)), (2, .putfield 57, 5, 0, .null), (5, .aload_n 0, 6, 0, .null), (6, .iload_n 1, 7, 0, .null), (7, .invokevirtual 130, 10, 0, .null), (10, .ifCond .eq 12, 13, 22, .null), (13, .aload_n 0, 14, 0, .null), (14, .getfield 33, 17, 0, .null), (17, .iload_n 1, 18, 0, .null), (18, .iaload, 19, 0, .null), (19, .goto 8, 22, 27, .null), (22, .aload_n 0, 23, 0, .null), (23, .iconst 1, 24, 0, .int (nI 1)), (24, .invokevirtual 74, 27, 0, .null), (27, .ireturn, 28, 0, .null)]
set_option maxRecDepth 100000 in
theorem ok_MO_length_0 : r_MO_length_0.all (am_okRowb "TraceAlignerModel" prog_7_method_33_code am_big) = true := by decide +kernel
def r_MO_length : List am_Row := r_MO_length_0
def E_MO_length : am_E := (am_G0, (F_MO, N_MO, C_MO), m_MO_length, r_MO_length)
theorem e_MO_length : am_okE E_MO_length := ⟨am_big_good, okT_MO, am_okRow_of ok_MO_length_0⟩
set_option maxRecDepth 100000 in
def r_MO_setLabelCost_0 : List am_Row := [(0, .aload_n 0, 1, 0, .null), (1, .iconst 0, 2, 0, .int (nI 0)), (2, .putfield 57, 5, 0, .null), (5, .iload_n 1, 6, 0, .null), (6, .invokestatic 82, 9, 0, .null), (9, .ifCond .ne 9, 12, 18, .null), (12, .aload_n 0, 13, 0, .null), (13, .iconst 1, 14, 0, .int (nI 1)), (14, .invokevirtual 74, 17, 0, .null), (17, .ireturn, 18, 0, .null), (18, .iload_n 2, 19, 0, .null), (19, .iconst 0, 20, 0, .int (nI 0)), (20, .bipush 9, 22, 0, .int (nI 9)), (22, .invokestatic 64, 25, 0, .null), (25, .ifCond .ne 9, 28, 34, .null), (28, .aload_n 0, 29, 0, .null), (29, .iconst 2, 30, 0, .int (nI 2)), (30, .invokevirtual 74, 33, 0, .null), (33, .ireturn, 34, 0, .null), (34, .aload_n 0, 35, 0, .null), (35, .getfield 24, 38, 0, .null), (38, .iload_n 1, 39, 0, .null), (39, .iaload, 40, 0, .null), (40, .istore_n 3, 41, 0, .null), (41, .aload_n 0, 42, 0, .null), (42, .getfield 24, 45, 0, .null), (45, .iload_n 1, 46, 0, .null), (46, .iload_n 2, 47, 0, .null), (47, .iastore, 48, 0, .null), (48, .iload_n 3, 49, 0, .null), (49, .ireturn, 50, 0, .null)]
set_option maxRecDepth 100000 in
theorem ok_MO_setLabelCost_0 : r_MO_setLabelCost_0.all (am_okRowb "TraceAlignerModel" prog_7_method_34_code am_big) = true := by decide +kernel
def r_MO_setLabelCost : List am_Row := r_MO_setLabelCost_0
def E_MO_setLabelCost : am_E := (am_G0, (F_MO, N_MO, C_MO), m_MO_setLabelCost, r_MO_setLabelCost)
theorem e_MO_setLabelCost : am_okE E_MO_setLabelCost := ⟨am_big_good, okT_MO, am_okRow_of ok_MO_setLabelCost_0⟩
set_option maxRecDepth 100000 in
def r_MO_setCost_0 : List am_Row := [(0, .aload_n 0, 1, 0, .null), (1, .iconst 0, 2, 0, .int (nI 0)), (2, .putfield 57, 5, 0, .null), (5, .aload_n 0, 6, 0, .null), (6, .iload_n 1, 7, 0, .null), (7, .invokevirtual 86, 10, 0, .null), (10, .ifCond .ne 9, 13, 19, .null), (13, .aload_n 0, 14, 0, .null), (14, .iconst 1, 15, 0, .int (nI 1)), (15, .invokevirtual 74, 18, 0, .null), (18, .ireturn, 19, 0, .null), (19, .iload_n 2, 20, 0, .null), (20, .iconst 0, 21, 0, .int (nI 0)), (21, .bipush 9, 23, 0, .int (nI 9)), (23, .invokestatic 64, 26, 0, .null), (26, .ifCond .ne 9, 29, 35, .null), (29, .aload_n 0, 30, 0, .null), (30, .iconst 2, 31, 0, .int (nI 2)), (31, .invokevirtual 74, 34, 0, .null), (34, .ireturn, 35, 0, .null), (35, .aload_n 0, 36, 0, .null), (36, .getfield 15, 39, 0, .null), (39, .iload_n 1, 40, 0, .null), (40, .iaload, 41, 0, .null), (41, .istore_n 3, 42, 0, .null), (42, .aload_n 0, 43, 0, .null), (43, .getfield 15, 46, 0, .null), (46, .iload_n 1, 47, 0, .null), (47, .iload_n 2, 48, 0, .null), (48, .iastore, 49, 0, .null), (49, .iload_n 3, 50, 0, .null), (50, .ireturn, 51, 0, .null)]
set_option maxRecDepth 100000 in
theorem ok_MO_setCost_0 : r_MO_setCost_0.all (am_okRowb "TraceAlignerModel" prog_7_method_35_code am_big) = true := by decide +kernel
def r_MO_setCost : List am_Row := r_MO_setCost_0
def E_MO_setCost : am_E := (am_G0, (F_MO, N_MO, C_MO), m_MO_setCost, r_MO_setCost)
theorem e_MO_setCost : am_okE E_MO_setCost := ⟨am_big_good, okT_MO, am_okRow_of ok_MO_setCost_0⟩
set_option maxRecDepth 100000 in
def r_MO_asksTrace_0 : List am_Row := [(0, .aload_n 0, 1, 0, .null), (1, .invokevirtual 118, 4, 0, .null), (4, .aload_n 0, 5, 0, .null), (5, .aload_n 0, 6, 0, .null), (6, .iload_n 1, 7, 0, .null), (7, .invokevirtual 130, 10, 0, .null), (10, .ifCond .ne 7, 13, 17, .null), (13, .iconst 1, 14, 0, .int (nI 1)), (14, .goto 15, 17, 29, .null), (17, .aload_n 0, 18, 0, .null), (18, .getfield 109, 21, 0, .null), (21, .ifCond .eq 7, 24, 28, .null), (24, .iconst 2, 25, 0, .int (nI 2)), (25, .goto 4, 28, 29, .null), (28, .iconst 0, 29, 0, .int (nI 0)), (29, .putfield 57, 32, 0, .null), (32, .aload_n 0, 33, 0, .null), (33, .getfield 57, 36, 0, .null), (36, .ifCond .ne 7, 39, 43, .null), (39, .iconst 1, 40, 0, .int (nI 1)), (40, .goto 4, 43, 44, .null), (43, .iconst 0, 44, 0, .int (nI 0)), (44, .ireturn, 45, 0, .null)]
set_option maxRecDepth 100000 in
theorem ok_MO_asksTrace_0 : r_MO_asksTrace_0.all (am_okRowb "TraceAlignerModel" prog_7_method_45_code am_big) = true := by decide +kernel
def r_MO_asksTrace : List am_Row := r_MO_asksTrace_0
def E_MO_asksTrace : am_E := (am_G0, (F_MO, N_MO, C_MO), m_MO_asksTrace, r_MO_asksTrace)
theorem e_MO_asksTrace : am_okE E_MO_asksTrace := ⟨am_big_good, okT_MO, am_okRow_of ok_MO_asksTrace_0⟩
set_option maxRecDepth 100000 in
def r_MO_cost_0 : List am_Row := [(0, .aload_n 0, 1, 0, .null), (1, .iload_n 1, 2, 0, .null), (2, .invokevirtual 178, 5, 0, .null), (5, .ifCond .eq 11, 8, 16, .null), (8, .aload_n 0, 9, 0, .null), (9, .iload_n 1, 10, 0, .null), (10, .invokevirtual 181, 13, 0, .null), (13, .goto 4, 16, 17, .null), (16, .iconst 0, 17, 0, .int (nI 0)), (17, .ireturn, 18, 0, .null)]
set_option maxRecDepth 100000 in
theorem ok_MO_cost_0 : r_MO_cost_0.all (am_okRowb "TraceAlignerModel" prog_7_method_48_code am_big) = true := by decide +kernel
def r_MO_cost : List am_Row := r_MO_cost_0
def E_MO_cost : am_E := (am_G0, (F_MO, N_MO, C_MO), m_MO_cost, r_MO_cost)
theorem e_MO_cost : am_okE E_MO_cost := ⟨am_big_good, okT_MO, am_okRow_of ok_MO_cost_0⟩
set_option maxRecDepth 100000 in
def r_MO_moves_0 : List am_Row := [(0, .aload_n 0, 1, 0, .null), (1, .iload_n 1, 2, 0, .null), (2, .invokevirtual 178, 5, 0, .null), (5, .ifCond .eq 11, 8, 16, .null), (8, .aload_n 0, 9, 0, .null), (9, .iload_n 1, 10, 0, .null), (10, .invokevirtual 184, 13, 0, .null), (13, .goto 4, 16, 17, .null), (16, .iconst 0, 17, 0, .int (nI 0)), (17, .ireturn, 18, 0, .null)]
set_option maxRecDepth 100000 in
theorem ok_MO_moves_0 : r_MO_moves_0.all (am_okRowb "TraceAlignerModel" prog_7_method_49_code am_big) = true := by decide +kernel
def r_MO_moves : List am_Row := r_MO_moves_0
def E_MO_moves : am_E := (am_G0, (F_MO, N_MO, C_MO), m_MO_moves, r_MO_moves)
theorem e_MO_moves : am_okE E_MO_moves := ⟨am_big_good, okT_MO, am_okRow_of ok_MO_moves_0⟩
set_option maxRecDepth 100000 in
def r_MO_move_0 : List am_Row := [(0, .aload_n 0, 1, 0, .null), (1, .iload_n 1, 2, 0, .null), (2, .invokevirtual 178, 5, 0, .null), (5, .ifCond .ne 5, 8, 10, .null), (8, .iconst 0, 9, 0, .int (nI 0)), (9, .ireturn, 10, 0, .null), (10, .iload_n 2, 11, 0, .null), (11, .iconst 0, 12, 0, .int (nI 0)), (12, .aload_n 0, 13, 0, .null), (13, .iload_n 1, 14, 0, .null), (14, .invokevirtual 184, 17, 0, .null), (17, .iconst 1, 18, 0, .int (nI 1)), (18, .isub, 19, 0, .null), (19, .invokestatic 64, 22, 0, .null), (22, .ifCond .eq 12, 25, 34, .null), (25, .iload_n 3, 26, 0, .null), (26, .iconst 0, 27, 0, .int (nI 0)), (27, .iconst 3, 28, 0, .int (nI 3)), (28, .invokestatic 64, 31, 0, .null), (31, .ifCond .ne 9, 34, 40, .null), (34, .aload_n 0, 35, 0, .null), (35, .iconst 3, 36, 0, .int (nI 3)), (36, .invokevirtual 74, 39, 0, .null), (39, .ireturn, 40, 0, .null), (40, .iload_n 3, 41, 0, .null), (41, .ifCond .ne 10, 44, 51, .null), (44, .aload_n 0, 45, 0, .null), (45, .getfield 48, 48, 0, .null), (48, .iload_n 2, 49, 0, .null), (49, .iaload, 50, 0, .null), (50, .ireturn, 51, 0, .null), (51, .iload_n 3, 52, 0, .null), (52, .iconst 1, 53, 0, .int (nI 1)), (53, .if_icmp .ne 10, 56, 63, .null), (56, .aload_n 0, 57, 0, .null), (57, .getfield 51, 60, 0, .null), (60, .iload_n 2, 61, 0, .null), (61, .iaload, 62, 0, .null), (62, .ireturn, 63, 0, .null), (63, .iload_n 3, 64, 0, .null)]
set_option maxRecDepth 100000 in
theorem ok_MO_move_0 : r_MO_move_0.all (am_okRowb "TraceAlignerModel" prog_7_method_50_code am_big) = true := by decide +kernel
set_option maxRecDepth 100000 in
def r_MO_move_1 : List am_Row := [(64, .iconst 2, 65, 0, .int (nI 2)), (65, .if_icmp .ne 32, 68, 97, .null), (68, .aload_n 0, 69, 0, .null), (69, .getfield 48, 72, 0, .null), (72, .iload_n 2, 73, 0, .null), (73, .iaload, 74, 0, .null), (74, .iconst 2, 75, 0, .int (nI 2)), (75, .if_icmp .ne 7, 78, 82, .null), (78, .iconst (-1), 79, 0, .int (-1)), (79, .goto 17, 82, 96, .null), (82, .aload_n 0, 83, 0, .null), (83, .aload_n 0, 84, 0, .null), (84, .getfield 54, 87, 0, .null), (87, .iload_n 2, 88, 0, .null), (88, .iaload, 89, 0, .null), (89, .sipush 200, 92, 0, .int (nI 200)), (92, .idiv, 93, 0, .null), (93, .invokevirtual 139, 96, 0, .null), (96, .ireturn, 97, 0, .null), (97, .aload_n 0, 98, 0, .null), (98, .getfield 54, 101, 0, .null), (101, .iload_n 2, 102, 0, .null), (102, .iaload, 103, 0, .null), (103, .sipush 200, 106, 0, .int (nI 200)), (106, .irem, 107, 0, .null), (107, .ireturn, 108, 0, .null)]
set_option maxRecDepth 100000 in
theorem ok_MO_move_1 : r_MO_move_1.all (am_okRowb "TraceAlignerModel" prog_7_method_50_code am_big) = true := by decide +kernel
def r_MO_move : List am_Row := r_MO_move_0 ++ (r_MO_move_1)
def E_MO_move : am_E := (am_G0, (F_MO, N_MO, C_MO), m_MO_move, r_MO_move)
theorem e_MO_move : am_okE E_MO_move := ⟨am_big_good, okT_MO, am_okRow_of (am_all_app ok_MO_move_0 ok_MO_move_1)⟩
set_option maxRecDepth 100000 in
def r_MO_worst_0 : List am_Row := [(0, .aload_n 0, 1, 0, .null), (1, .iload_n 1, 2, 0, .null), (2, .invokevirtual 178, 5, 0, .null), (5, .ifCond .eq 11, 8, 16, .null), (8, .aload_n 0, 9, 0, .null), (9, .iload_n 1, 10, 0, .null), (10, .invokevirtual 187, 13, 0, .null), (13, .goto 4, 16, 17, .null), (16, .iconst 0, 17, 0, .int (nI 0)), (17, .ireturn, 18, 0, .null)]
set_option maxRecDepth 100000 in
theorem ok_MO_worst_0 : r_MO_worst_0.all (am_okRowb "TraceAlignerModel" prog_7_method_51_code am_big) = true := by decide +kernel
def r_MO_worst : List am_Row := r_MO_worst_0
def E_MO_worst : am_E := (am_G0, (F_MO, N_MO, C_MO), m_MO_worst, r_MO_worst)
theorem e_MO_worst : am_okE E_MO_worst := ⟨am_big_good, okT_MO, am_okRow_of ok_MO_worst_0⟩
set_option maxRecDepth 100000 in
def r_MO_fitness_0 : List am_Row := [(0, .aload_n 0, 1, 0, .null), (1, .iload_n 1, 2, 0, .null), (2, .invokevirtual 178, 5, 0, .null), (5, .ifCond .ne 5, 8, 10, .null), (8, .dconst 0, 9, 0, .double FP.dconst0), (9, .dreturn, 10, 0, .null), (10, .aload_n 0, 11, 0, .null), (11, .iload_n 1, 12, 0, .null), (12, .invokevirtual 187, 15, 0, .null), (15, .istore_n 2, 16, 0, .null), (16, .aload_n 0, 17, 0, .null), (17, .iload_n 1, 18, 0, .null), (18, .invokevirtual 181, 21, 0, .null), (21, .istore_n 3, 22, 0, .null), (22, .iload_n 2, 23, 0, .null), (23, .ifCond .ne 7, 26, 30, .null), (26, .dconst 1, 27, 0, .double FP.dconst1), (27, .goto 19, 30, 46, .null), (30, .iload_n 3, 31, 0, .null), (31, .iconst (-1), 32, 0, .int (-1)), (32, .if_icmp .ne 7, 35, 39, .null), (35, .dconst 0, 36, 0, .double FP.dconst0), (36, .goto 10, 39, 46, .null), (39, .dconst 1, 40, 0, .double FP.dconst1), (40, .iload_n 3, 41, 0, .null), (41, .i2d, 42, 0, .null), (42, .iload_n 2, 43, 0, .null), (43, .i2d, 44, 0, .null), (44, .ddiv, 45, 0, .null), (45, .dsub, 46, 0, .null), (46, .dreturn, 47, 0, .null)]
set_option maxRecDepth 100000 in
theorem ok_MO_fitness_0 : r_MO_fitness_0.all (am_okRowb "TraceAlignerModel" prog_7_method_52_code am_big) = true := by decide +kernel
def r_MO_fitness : List am_Row := r_MO_fitness_0
def E_MO_fitness : am_E := (am_G0, (F_MO, N_MO, C_MO), m_MO_fitness, r_MO_fitness)
theorem e_MO_fitness : am_okE E_MO_fitness := ⟨am_big_good, okT_MO, am_okRow_of ok_MO_fitness_0⟩
set_option maxRecDepth 100000 in
def r_MO_total_0 : List am_Row := [(0, .aload_n 0, 1, 0, .null), (1, .invokevirtual 118, 4, 0, .null), (4, .iload_n 1, 5, 0, .null), (5, .iconst 0, 6, 0, .int (nI 0)), (6, .iconst 2, 7, 0, .int (nI 2)), (7, .invokestatic 64, 10, 0, .null), (10, .ifCond .eq 30, 13, 40, .null), (13, .iload_n 1, 14, 0, .null), (14, .iconst 1, 15, 0, .int (nI 1)), (15, .if_icmp .ne 13, 18, 28, .null), (18, .iload_n 2, 19, 0, .null), (19, .invokestatic 82, 22, 0, .null), (22, .ifCond .eq 18, 25, 40, .null), (25, .goto 11, 28, 36, .null), (28, .aload_n 0, 29, 0, .null), (29, .iload_n 2, 30, 0, .null), (30, .invokevirtual 86, 33, 0, .null), (33, .ifCond .eq 7, 36, 40, .null), (36, .iconst 1, 37, 0, .int (nI 1)), (37, .goto 4, 40, 41, .null), (40, .iconst 0, 41, 0, .int (nI 0)), (41, .istore_n 3, 42, 0, .null), (42, .aload_n 0, 43, 0, .null), (43, .iload_n 3, 44, 0, .null), (44, .ifCond .ne 7, 47, 51, .null), (47, .iconst 1, 48, 0, .int (nI 1)), (48, .goto 15, 51, 63, .null), (51, .aload_n 0, 52, 0, .null), (52, .getfield 109, 55, 0, .null), (55, .ifCond .eq 7, 58, 62, .null), (58, .iconst 2, 59, 0, .int (nI 2)), (59, .goto 4, 62, 63, .null), (62, .iconst 0, 63, 0, .int (nI 0)), (63, .putfield 57, 66, 0, .null), (66, .aload_n 0, 67, 0, .null), (67, .getfield 57, 70, 0, .null), (70, .ifCond .eq 5, 73, 75, .null), (73, .iconst 0, 74, 0, .int (nI 0)), (74, .ireturn, 75, 0, .null), (75, .iconst 0, 76, 0, .int (nI 0))]
set_option maxRecDepth 100000 in
theorem ok_MO_total_0 : r_MO_total_0.all (am_okRowb "TraceAlignerModel" prog_7_method_53_code am_big) = true := by decide +kernel
set_option maxRecDepth 100000 in
def r_MO_total_1 : List am_Row := [(76, .istore 4, 78, 0, .null), (78, .iconst 0, 79, 0, .int (nI 0)), (79, .istore 5, 81, 0, .null), (81, .iload 5, 83, 0, .null), (83, .aload_n 0, 84, 0, .null), (84, .getfield 71, 87, 0, .null), (87, .if_icmp .ge 113, 90, 200, .null), (90, .aload_n 0, 91, 0, .null), (91, .iload 5, 93, 0, .null), (93, .invokevirtual 184, 96, 0, .null), (96, .istore 6, 98, 0, .null), (98, .iconst 0, 99, 0, .int (nI 0)), (99, .istore 7, 101, 0, .null), (101, .iload 7, 103, 0, .null), (103, .iload 6, 105, 0, .null), (105, .if_icmp .ge 89, 108, 194, .null), (108, .iload_n 1, 109, 0, .null), (109, .iconst 1, 110, 0, .int (nI 1)), (110, .if_icmp .ne 36, 113, 146, .null), (113, .aload_n 0, 114, 0, .null), (114, .getfield 48, 117, 0, .null), (117, .iload 7, 119, 0, .null), (119, .iaload, 120, 0, .null), (120, .iconst 1, 121, 0, .int (nI 1)), (121, .if_icmp .ne 21, 124, 142, .null), (124, .aload_n 0, 125, 0, .null), (125, .aload_n 0, 126, 0, .null), (126, .getfield 54, 129, 0, .null), (129, .iload 7, 131, 0, .null), (131, .iaload, 132, 0, .null), (132, .sipush 200, 135, 0, .int (nI 200)), (135, .idiv, 136, 0, .null), (136, .invokevirtual 139, 139, 0, .null), (139, .goto 14, 142, 153, .null), (142, .iconst (-1), 143, 0, .int (-1)), (143, .goto 10, 146, 153, .null), (146, .aload_n 0, 147, 0, .null), (147, .getfield 51, 150, 0, .null), (150, .iload 7, 152, 0, .null), (152, .iaload, 153, 0, .null)]
set_option maxRecDepth 100000 in
theorem ok_MO_total_1 : r_MO_total_1.all (am_okRowb "TraceAlignerModel" prog_7_method_53_code am_big) = true := by decide +kernel
set_option maxRecDepth 100000 in
def r_MO_total_2 : List am_Row := [(153, .istore 8, 155, 0, .null), (155, .iload 4, 157, 0, .null), (157, .aload_n 0, 158, 0, .null), (158, .getfield 48, 161, 0, .null), (161, .iload 7, 163, 0, .null), (163, .iaload, 164, 0, .null), (164, .iload_n 1, 165, 0, .null), (165, .if_icmp .ne 19, 168, 184, .null), (168, .iload 8, 170, 0, .null), (170, .iload_n 2, 171, 0, .null), (171, .if_icmp .ne 13, 174, 184, .null), (174, .aload_n 0, 175, 0, .null), (175, .getfield 30, 178, 0, .null), (178, .iload 5, 180, 0, .null), (180, .iaload, 181, 0, .null), (181, .goto 4, 184, 185, .null), (184, .iconst 0, 185, 0, .int (nI 0)), (185, .iadd, 186, 0, .null), (186, .istore 4, 188, 0, .null), (188, .iinc 7 1, 191, 0, .int (nI 1)), (191, .goto (-90), 194, 101, .null), (194, .iinc 5 1, 197, 0, .int (nI 1)), (197, .goto (-116), 200, 81, .null), (200, .iload 4, 202, 0, .null), (202, .ireturn, 203, 0, .null)]
set_option maxRecDepth 100000 in
theorem ok_MO_total_2 : r_MO_total_2.all (am_okRowb "TraceAlignerModel" prog_7_method_53_code am_big) = true := by decide +kernel
def r_MO_total : List am_Row := r_MO_total_0 ++ (r_MO_total_1 ++ (r_MO_total_2))
def E_MO_total : am_E := (am_G0, (F_MO, N_MO, C_MO), m_MO_total, r_MO_total)
theorem e_MO_total : am_okE E_MO_total := ⟨am_big_good, okT_MO, am_okRow_of (am_all_app ok_MO_total_0 (am_all_app ok_MO_total_1 ok_MO_total_2))⟩
set_option maxRecDepth 100000 in
def r_MO_allFitness_0 : List am_Row := [(0, .aload_n 0, 1, 0, .null), (1, .iconst 0, 2, 0, .int (nI 0)), (2, .invokevirtual 121, 5, 0, .null), (5, .ifCond .ne 5, 8, 10, .null), (8, .dconst 0, 9, 0, .double FP.dconst0), (9, .dreturn, 10, 0, .null), (10, .iconst 0, 11, 0, .int (nI 0)), (11, .istore_n 1, 12, 0, .null), (12, .iconst 0, 13, 0, .int (nI 0)), (13, .istore_n 2, 14, 0, .null), (14, .iconst 0, 15, 0, .int (nI 0)), (15, .istore_n 3, 16, 0, .null), (16, .iload_n 3, 17, 0, .null), (17, .aload_n 0, 18, 0, .null), (18, .getfield 71, 21, 0, .null), (21, .if_icmp .ge 51, 24, 72, .null), (24, .aload_n 0, 25, 0, .null), (25, .iload_n 3, 26, 0, .null), (26, .invokevirtual 181, 29, 0, .null), (29, .iconst (-1), 30, 0, .int (-1)), (30, .if_icmp .ne 6, 33, 36, .null), (33, .goto 33, 36, 66, .null), (36, .iload_n 1, 37, 0, .null), (37, .aload_n 0, 38, 0, .null), (38, .getfield 30, 41, 0, .null), (41, .iload_n 3, 42, 0, .null), (42, .iaload, 43, 0, .null), (43, .aload_n 0, 44, 0, .null), (44, .iload_n 3, 45, 0, .null), (45, .invokevirtual 181, 48, 0, .null), (48, .imul, 49, 0, .null), (49, .iadd, 50, 0, .null), (50, .istore_n 1, 51, 0, .null), (51, .iload_n 2, 52, 0, .null), (52, .aload_n 0, 53, 0, .null), (53, .getfield 30, 56, 0, .null), (56, .iload_n 3, 57, 0, .null), (57, .iaload, 58, 0, .null), (58, .aload_n 0, 59, 0, .null), (59, .iload_n 3, 60, 0, .null)]
set_option maxRecDepth 100000 in
theorem ok_MO_allFitness_0 : r_MO_allFitness_0.all (am_okRowb "TraceAlignerModel" prog_7_method_54_code am_big) = true := by decide +kernel
set_option maxRecDepth 100000 in
def r_MO_allFitness_1 : List am_Row := [(60, .invokevirtual 187, 63, 0, .null), (63, .imul, 64, 0, .null), (64, .iadd, 65, 0, .null), (65, .istore_n 2, 66, 0, .null), (66, .iinc 3 1, 69, 0, .int (nI 1)), (69, .goto (-53), 72, 16, .null), (72, .iload_n 2, 73, 0, .null), (73, .ifCond .ne 7, 76, 80, .null), (76, .dconst 1, 77, 0, .double FP.dconst1), (77, .goto 10, 80, 87, .null), (80, .dconst 1, 81, 0, .double FP.dconst1), (81, .iload_n 1, 82, 0, .null), (82, .i2d, 83, 0, .null), (83, .iload_n 2, 84, 0, .null), (84, .i2d, 85, 0, .null), (85, .ddiv, 86, 0, .null), (86, .dsub, 87, 0, .null), (87, .dreturn, 88, 0, .null)]
set_option maxRecDepth 100000 in
theorem ok_MO_allFitness_1 : r_MO_allFitness_1.all (am_okRowb "TraceAlignerModel" prog_7_method_54_code am_big) = true := by decide +kernel
def r_MO_allFitness : List am_Row := r_MO_allFitness_0 ++ (r_MO_allFitness_1)
def E_MO_allFitness : am_E := (am_G0, (F_MO, N_MO, C_MO), m_MO_allFitness, r_MO_allFitness)
theorem e_MO_allFitness : am_okE E_MO_allFitness := ⟨am_big_good, okT_MO, am_okRow_of (am_all_app ok_MO_allFitness_0 ok_MO_allFitness_1)⟩
set_option maxRecDepth 100000 in
def r_MO_precision_0 : List am_Row := [(0, .aload_n 0, 1, 0, .null), (1, .iconst 0, 2, 0, .int (nI 0)), (2, .invokevirtual 121, 5, 0, .null), (5, .ifCond .ne 5, 8, 10, .null), (8, .dconst 0, 9, 0, .double FP.dconst0), (9, .dreturn, 10, 0, .null), (10, .sipush 200, 13, 0, .int (nI 200)), (13, .newarray .int, 15, 0, .null), (15, .astore_n 1, 16, 0, .null), (16, .sipush 200, 19, 0, .int (nI 200)), (19, .newarray .int, 21, 0, .null), (21, .astore_n 2, 22, 0, .null), (22, .iconst 0, 23, 0, .int (nI 0)), (23, .istore_n 3, 24, 0, .null), (24, .iload_n 3, 25, 0, .null), (25, .aload_n 0, 26, 0, .null), (26, .getfield 71, 29, 0, .null), (29, .if_icmp .ge 134, 32, 163, .null), (32, .aload_n 0, 33, 0, .null), (33, .getfield 30, 36, 0, .null), (36, .iload_n 3, 37, 0, .null), (37, .iaload, 38, 0, .null), (38, .ifCond .ne 7, 41, 45, .null), (41, .iconst (-1), 42, 0, .int (-1)), (42, .goto 8, 45, 50, .null), (45, .aload_n 0, 46, 0, .null), (46, .iload_n 3, 47, 0, .null), (47, .invokevirtual 184, 50, 0, .null), (50, .istore 4, 52, 0, .null), (52, .iload 4, 54, 0, .null), (54, .iconst (-1), 55, 0, .int (-1)), (55, .if_icmp .ne 6, 58, 61, .null), (58, .goto 99, 61, 157, .null), (61, .iconst 0, 62, 0, .int (nI 0)), (62, .istore 5, 64, 0, .null), (64, .iload 5, 66, 0, .null), (66, .iload 4, 68, 0, .null), (68, .if_icmp .ge 70, 71, 138, .null), (71, .aload_n 0, 72, 0, .null), (72, .getfield 48, 75, 0, .null)]
set_option maxRecDepth 100000 in
theorem ok_MO_precision_0 : r_MO_precision_0.all (am_okRowb "TraceAlignerModel" prog_7_method_55_code am_big) = true := by decide +kernel
set_option maxRecDepth 100000 in
def r_MO_precision_1 : List am_Row := [(75, .iload 5, 77, 0, .null), (77, .iaload, 78, 0, .null), (78, .iconst 1, 79, 0, .int (nI 1)), (79, .if_icmp .ne 6, 82, 85, .null), (82, .goto 50, 85, 132, .null), (85, .aload_n 1, 86, 0, .null), (86, .aload_n 0, 87, 0, .null), (87, .getfield 54, 90, 0, .null), (90, .iload 5, 92, 0, .null), (92, .iaload, 93, 0, .null), (93, .sipush 200, 96, 0, .int (nI 200)), (96, .irem, 97, 0, .null), (97, .dup2, 98, 0, .null), (98, .iaload, 99, 0, .null), (99, .aload_n 0, 100, 0, .null), (100, .getfield 30, 103, 0, .null), (103, .iload_n 3, 104, 0, .null), (104, .iaload, 105, 0, .null), (105, .iadd, 106, 0, .null), (106, .iastore, 107, 0, .null), (107, .aload_n 2, 108, 0, .null), (108, .aload_n 0, 109, 0, .null), (109, .getfield 54, 112, 0, .null), (112, .iload 5, 114, 0, .null), (114, .iaload, 115, 0, .null), (115, .sipush 200, 118, 0, .int (nI 200)), (118, .irem, 119, 0, .null), (119, .dup2, 120, 0, .null), (120, .iaload, 121, 0, .null), (121, .iconst 1, 122, 0, .int (nI 1)), (122, .aload_n 0, 123, 0, .null), (123, .getfield 51, 126, 0, .null), (126, .iload 5, 128, 0, .null), (128, .iaload, 129, 0, .null), (129, .ishl, 130, 0, .null), (130, .ior, 131, 0, .null), (131, .iastore, 132, 0, .null), (132, .iinc 5 1, 135, 0, .int (nI 1)), (135, .goto (-71), 138, 64, .null), (138, .aload_n 1, 139, 0, .null)]
set_option maxRecDepth 100000 in
theorem ok_MO_precision_1 : r_MO_precision_1.all (am_okRowb "TraceAlignerModel" prog_7_method_55_code am_big) = true := by decide +kernel
set_option maxRecDepth 100000 in
def r_MO_precision_2 : List am_Row := [(139, .aload_n 0, 140, 0, .null), (140, .getfield 162, 143, 0, .null), (143, .sipush 200, 146, 0, .int (nI 200)), (146, .irem, 147, 0, .null), (147, .dup2, 148, 0, .null), (148, .iaload, 149, 0, .null), (149, .aload_n 0, 150, 0, .null), (150, .getfield 30, 153, 0, .null), (153, .iload_n 3, 154, 0, .null), (154, .iaload, 155, 0, .null), (155, .iadd, 156, 0, .null), (156, .iastore, 157, 0, .null), (157, .iinc 3 1, 160, 0, .int (nI 1)), (160, .goto (-136), 163, 24, .null), (163, .iconst 0, 164, 0, .int (nI 0)), (164, .istore_n 3, 165, 0, .null), (165, .iconst 0, 166, 0, .int (nI 0)), (166, .istore 4, 168, 0, .null), (168, .iconst 0, 169, 0, .int (nI 0)), (169, .istore 5, 171, 0, .null), (171, .iload 5, 173, 0, .null), (173, .aload_n 0, 174, 0, .null), (174, .getfield 106, 177, 0, .null), (177, .if_icmp .ge 50, 180, 227, .null), (180, .iload_n 3, 181, 0, .null), (181, .aload_n 1, 182, 0, .null), (182, .iload 5, 184, 0, .null), (184, .iaload, 185, 0, .null), (185, .aload_n 0, 186, 0, .null), (186, .iload 5, 188, 0, .null), (188, .invokevirtual 124, 191, 0, .null), (191, .invokestatic 190, 194, 0, .null), (194, .imul, 195, 0, .null), (195, .iadd, 196, 0, .null), (196, .istore_n 3, 197, 0, .null), (197, .iload 4, 199, 0, .null), (199, .aload_n 1, 200, 0, .null), (200, .iload 5, 202, 0, .null), (202, .iaload, 203, 0, .null), (203, .aload_n 0, 204, 0, .null)]
set_option maxRecDepth 100000 in
theorem ok_MO_precision_2 : r_MO_precision_2.all (am_okRowb "TraceAlignerModel" prog_7_method_55_code am_big) = true := by decide +kernel
set_option maxRecDepth 100000 in
def r_MO_precision_3 : List am_Row := [(204, .iload 5, 206, 0, .null), (206, .invokevirtual 124, 209, 0, .null), (209, .aload_n 2, 210, 0, .null), (210, .iload 5, 212, 0, .null), (212, .iaload, 213, 0, .null), (213, .iand, 214, 0, .null), (214, .invokestatic 190, 217, 0, .null), (217, .imul, 218, 0, .null), (218, .iadd, 219, 0, .null), (219, .istore 4, 221, 0, .null), (221, .iinc 5 1, 224, 0, .int (nI 1)), (224, .goto (-53), 227, 171, .null), (227, .iload_n 3, 228, 0, .null), (228, .ifCond .ne 7, 231, 235, .null), (231, .dconst 1, 232, 0, .double FP.dconst1), (232, .goto 9, 235, 241, .null), (235, .iload 4, 237, 0, .null), (237, .i2d, 238, 0, .null), (238, .iload_n 3, 239, 0, .null), (239, .i2d, 240, 0, .null), (240, .ddiv, 241, 0, .null), (241, .dreturn, 242, 0, .null)]
set_option maxRecDepth 100000 in
theorem ok_MO_precision_3 : r_MO_precision_3.all (am_okRowb "TraceAlignerModel" prog_7_method_55_code am_big) = true := by decide +kernel
def r_MO_precision : List am_Row := r_MO_precision_0 ++ (r_MO_precision_1 ++ (r_MO_precision_2 ++ (r_MO_precision_3)))
def E_MO_precision : am_E := (am_G0, (F_MO, N_MO, C_MO), m_MO_precision, r_MO_precision)
theorem e_MO_precision : am_okE E_MO_precision := ⟨am_big_good, okT_MO, am_okRow_of (am_all_app ok_MO_precision_0 (am_all_app ok_MO_precision_1 (am_all_app ok_MO_precision_2 ok_MO_precision_3)))⟩
set_option maxRecDepth 100000 in
def r_MO_digest_0 : List am_Row := [(0, .aload_n 0, 1, 0, .null), (1, .iconst 0, 2, 0, .int (nI 0)), (2, .putfield 57, 5, 0, .null), (5, .aload_n 0, 6, 0, .null), (6, .invokevirtual 118, 9, 0, .null), (9, .ldc2_w 193, 12, 0, .long (5611)), (12, .aload_n 0, 13, 0, .null), (13, .getfield 61, 16, 0, .null), (16, .i2l, 17, 0, .null), (17, .ladd, 18, 0, .null), (18, .ldc2_w 195, 21, 0, .long (31)), (21, .lmul, 22, 0, .null), (22, .aload_n 0, 23, 0, .null), (23, .getfield 68, 26, 0, .null), (26, .i2l, 27, 0, .null), (27, .ladd, 28, 0, .null), (28, .lstore_n 1, 29, 0, .null), (29, .iconst 0, 30, 0, .int (nI 0)), (30, .istore_n 3, 31, 0, .null), (31, .iload_n 3, 32, 0, .null), (32, .aload_n 0, 33, 0, .null), (33, .getfield 68, 36, 0, .null), (36, .if_icmp .ge 59, 39, 95, .null), (39, .lload_n 1, 40, 0, .null), (40, .ldc2_w 195, 43, 0, .long (31)), (43, .lmul, 44, 0, .null), (44, .aload_n 0, 45, 0, .null), (45, .getfield 11, 48, 0, .null), (48, .iload_n 3, 49, 0, .null), (49, .iaload, 50, 0, .null), (50, .i2l, 51, 0, .null), (51, .ladd, 52, 0, .null), (52, .ldc2_w 195, 55, 0, .long (31)), (55, .lmul, 56, 0, .null), (56, .aload_n 0, 57, 0, .null), (57, .getfield 15, 60, 0, .null), (60, .iload_n 3, 61, 0, .null), (61, .iaload, 62, 0, .null), (62, .i2l, 63, 0, .null), (63, .ladd, 64, 0, .null)]
set_option maxRecDepth 100000 in
theorem ok_MO_digest_0 : r_MO_digest_0.all (am_okRowb "TraceAlignerModel" prog_7_method_56_code am_big) = true := by decide +kernel
set_option maxRecDepth 100000 in
def r_MO_digest_1 : List am_Row := [(64, .ldc2_w 195, 67, 0, .long (31)), (67, .lmul, 68, 0, .null), (68, .aload_n 0, 69, 0, .null), (69, .getfield 18, 72, 0, .null), (72, .iload_n 3, 73, 0, .null), (73, .iaload, 74, 0, .null), (74, .i2l, 75, 0, .null), (75, .ladd, 76, 0, .null), (76, .ldc2_w 195, 79, 0, .long (31)), (79, .lmul, 80, 0, .null), (80, .aload_n 0, 81, 0, .null), (81, .getfield 21, 84, 0, .null), (84, .iload_n 3, 85, 0, .null), (85, .iaload, 86, 0, .null), (86, .i2l, 87, 0, .null), (87, .ladd, 88, 0, .null), (88, .lstore_n 1, 89, 0, .null), (89, .iinc 3 1, 92, 0, .int (nI 1)), (92, .goto (-61), 95, 31, .null), (95, .iconst 0, 96, 0, .int (nI 0)), (96, .istore_n 3, 97, 0, .null), (97, .iload_n 3, 98, 0, .null), (98, .aload_n 0, 99, 0, .null), (99, .getfield 61, 102, 0, .null), (102, .if_icmp .ge 25, 105, 127, .null), (105, .lload_n 1, 106, 0, .null), (106, .ldc2_w 195, 109, 0, .long (31)), (109, .lmul, 110, 0, .null), (110, .aload_n 0, 111, 0, .null), (111, .getfield 99, 114, 0, .null), (114, .iload_n 3, 115, 0, .null), (115, .invokestatic 102, 118, 0, .null), (118, .i2l, 119, 0, .null), (119, .ladd, 120, 0, .null), (120, .lstore_n 1, 121, 0, .null), (121, .iinc 3 1, 124, 0, .int (nI 1)), (124, .goto (-27), 127, 97, .null), (127, .iconst 0, 128, 0, .int (nI 0)), (128, .istore_n 3, 129, 0, .null), (129, .iload_n 3, 130, 0, .null)]
set_option maxRecDepth 100000 in
theorem ok_MO_digest_1 : r_MO_digest_1.all (am_okRowb "TraceAlignerModel" prog_7_method_56_code am_big) = true := by decide +kernel
set_option maxRecDepth 100000 in
def r_MO_digest_2 : List am_Row := [(130, .aload_n 0, 131, 0, .null), (131, .getfield 61, 134, 0, .null), (134, .if_icmp .ge 25, 137, 159, .null), (137, .lload_n 1, 138, 0, .null), (138, .ldc2_w 195, 141, 0, .long (31)), (141, .lmul, 142, 0, .null), (142, .aload_n 0, 143, 0, .null), (143, .getfield 96, 146, 0, .null), (146, .iload_n 3, 147, 0, .null), (147, .invokestatic 102, 150, 0, .null), (150, .i2l, 151, 0, .null), (151, .ladd, 152, 0, .null), (152, .lstore_n 1, 153, 0, .null), (153, .iinc 3 1, 156, 0, .int (nI 1)), (156, .goto (-27), 159, 129, .null), (159, .iconst 0, 160, 0, .int (nI 0)), (160, .istore_n 3, 161, 0, .null), (161, .iload_n 3, 162, 0, .null), (162, .bipush 6, 164, 0, .int (nI 6)), (164, .if_icmp .ge 23, 167, 187, .null), (167, .lload_n 1, 168, 0, .null), (168, .ldc2_w 195, 171, 0, .long (31)), (171, .lmul, 172, 0, .null), (172, .aload_n 0, 173, 0, .null), (173, .getfield 24, 176, 0, .null), (176, .iload_n 3, 177, 0, .null), (177, .iaload, 178, 0, .null), (178, .i2l, 179, 0, .null), (179, .ladd, 180, 0, .null), (180, .lstore_n 1, 181, 0, .null), (181, .iinc 3 1, 184, 0, .int (nI 1)), (184, .goto (-23), 187, 161, .null), (187, .lload_n 1, 188, 0, .null), (188, .ldc2_w 195, 191, 0, .long (31)), (191, .lmul, 192, 0, .null), (192, .aload_n 0, 193, 0, .null), (193, .getfield 127, 196, 0, .null), (196, .i2l, 197, 0, .null), (197, .ladd, 198, 0, .null), (198, .ldc2_w 195, 201, 0, .long (31))]
set_option maxRecDepth 100000 in
theorem ok_MO_digest_2 : r_MO_digest_2.all (am_okRowb "TraceAlignerModel" prog_7_method_56_code am_big) = true := by decide +kernel
set_option maxRecDepth 100000 in
def r_MO_digest_3 : List am_Row := [(201, .lmul, 202, 0, .null), (202, .aload_n 0, 203, 0, .null), (203, .getfield 71, 206, 0, .null), (206, .i2l, 207, 0, .null), (207, .ladd, 208, 0, .null), (208, .lstore_n 1, 209, 0, .null), (209, .iconst 0, 210, 0, .int (nI 0)), (210, .istore_n 3, 211, 0, .null), (211, .iload_n 3, 212, 0, .null), (212, .aload_n 0, 213, 0, .null), (213, .getfield 71, 216, 0, .null), (216, .if_icmp .ge 75, 219, 291, .null), (219, .lload_n 1, 220, 0, .null), (220, .ldc2_w 195, 223, 0, .long (31)), (223, .lmul, 224, 0, .null), (224, .aload_n 0, 225, 0, .null), (225, .getfield 30, 228, 0, .null), (228, .iload_n 3, 229, 0, .null), (229, .iaload, 230, 0, .null), (230, .i2l, 231, 0, .null), (231, .ladd, 232, 0, .null), (232, .ldc2_w 195, 235, 0, .long (31)), (235, .lmul, 236, 0, .null), (236, .aload_n 0, 237, 0, .null), (237, .getfield 33, 240, 0, .null), (240, .iload_n 3, 241, 0, .null), (241, .iaload, 242, 0, .null), (242, .i2l, 243, 0, .null), (243, .ladd, 244, 0, .null), (244, .lstore_n 1, 245, 0, .null), (245, .iconst 0, 246, 0, .int (nI 0)), (246, .istore 4, 248, 0, .null), (248, .iload 4, 250, 0, .null), (250, .aload_n 0, 251, 0, .null), (251, .getfield 33, 254, 0, .null), (254, .iload_n 3, 255, 0, .null), (255, .iaload, 256, 0, .null), (256, .if_icmp .ge 29, 259, 285, .null), (259, .lload_n 1, 260, 0, .null), (260, .ldc2_w 195, 263, 0, .long (31))]
set_option maxRecDepth 100000 in
theorem ok_MO_digest_3 : r_MO_digest_3.all (am_okRowb "TraceAlignerModel" prog_7_method_56_code am_big) = true := by decide +kernel
set_option maxRecDepth 100000 in
def r_MO_digest_4 : List am_Row := [(263, .lmul, 264, 0, .null), (264, .aload_n 0, 265, 0, .null), (265, .getfield 36, 268, 0, .null), (268, .bipush 8, 270, 0, .int (nI 8)), (270, .iload_n 3, 271, 0, .null), (271, .imul, 272, 0, .null), (272, .iload 4, 274, 0, .null), (274, .iadd, 275, 0, .null), (275, .iaload, 276, 0, .null), (276, .i2l, 277, 0, .null), (277, .ladd, 278, 0, .null), (278, .lstore_n 1, 279, 0, .null), (279, .iinc 4 1, 282, 0, .int (nI 1)), (282, .goto (-34), 285, 248, .null), (285, .iinc 3 1, 288, 0, .int (nI 1)), (288, .goto (-77), 291, 211, .null), (291, .lload_n 1, 292, 0, .null), (292, .ldc2_w 195, 295, 0, .long (31)), (295, .lmul, 296, 0, .null), (296, .aload_n 0, 297, 0, .null), (297, .getfield 109, 300, 0, .null), (300, .ifCond .eq 7, 303, 307, .null), (303, .iconst (-1), 304, 0, .int (-1)), (304, .goto 7, 307, 311, .null), (307, .aload_n 0, 308, 0, .null), (308, .getfield 106, 311, 0, .null), (311, .i2l, 312, 0, .null), (312, .ladd, 313, 0, .null), (313, .lstore_n 1, 314, 0, .null), (314, .iconst 0, 315, 0, .int (nI 0)), (315, .istore_n 3, 316, 0, .null), (316, .iload_n 3, 317, 0, .null), (317, .aload_n 0, 318, 0, .null), (318, .getfield 71, 321, 0, .null), (321, .if_icmp .ge 29, 324, 350, .null), (324, .aload_n 0, 325, 0, .null), (325, .getfield 109, 328, 0, .null), (328, .ifCond .ne 22, 331, 350, .null), (331, .lload_n 1, 332, 0, .null), (332, .ldc2_w 195, 335, 0, .long (31))]
set_option maxRecDepth 100000 in
theorem ok_MO_digest_4 : r_MO_digest_4.all (am_okRowb "TraceAlignerModel" prog_7_method_56_code am_big) = true := by decide +kernel
set_option maxRecDepth 100000 in
def r_MO_digest_5 : List am_Row := [(335, .lmul, 336, 0, .null), (336, .aload_n 0, 337, 0, .null), (337, .iload_n 3, 338, 0, .null), (338, .invokevirtual 181, 341, 0, .null), (341, .i2l, 342, 0, .null), (342, .ladd, 343, 0, .null), (343, .lstore_n 1, 344, 0, .null), (344, .iinc 3 1, 347, 0, .int (nI 1)), (347, .goto (-31), 350, 316, .null), (350, .lload_n 1, 351, 0, .null), (351, .lreturn, 352, 0, .null)]
set_option maxRecDepth 100000 in
theorem ok_MO_digest_5 : r_MO_digest_5.all (am_okRowb "TraceAlignerModel" prog_7_method_56_code am_big) = true := by decide +kernel
def r_MO_digest : List am_Row := r_MO_digest_0 ++ (r_MO_digest_1 ++ (r_MO_digest_2 ++ (r_MO_digest_3 ++ (r_MO_digest_4 ++ (r_MO_digest_5)))))
def E_MO_digest : am_E := (am_G0, (F_MO, N_MO, C_MO), m_MO_digest, r_MO_digest)
theorem e_MO_digest : am_okE E_MO_digest := ⟨am_big_good, okT_MO, am_okRow_of (am_all_app ok_MO_digest_0 (am_all_app ok_MO_digest_1 (am_all_app ok_MO_digest_2 (am_all_app ok_MO_digest_3 (am_all_app ok_MO_digest_4 ok_MO_digest_5)))))⟩
set_option maxRecDepth 100000 in
def r_IN_bitCount_0 : List am_Row := [(0, .iload_n 0, 1, 0, .null), (1, .iload_n 0, 2, 0, .null), (2, .iconst 1, 3, 0, .int (nI 1)), (3, .iushr, 4, 0, .null), (4, .ldc_w 265, 7, 0, .int (nI 1431655765)), (7, .iand, 8, 0, .null), (8, .isub, 9, 0, .null), (9, .istore_n 0, 10, 0, .null), (10, .iload_n 0, 11, 0, .null), (11, .ldc_w 266, 14, 0, .int (nI 858993459)), (14, .iand, 15, 0, .null), (15, .iload_n 0, 16, 0, .null), (16, .iconst 2, 17, 0, .int (nI 2)), (17, .iushr, 18, 0, .null), (18, .ldc_w 266, 21, 0, .int (nI 858993459)), (21, .iand, 22, 0, .null), (22, .iadd, 23, 0, .null), (23, .istore_n 0, 24, 0, .null), (24, .iload_n 0, 25, 0, .null), (25, .iload_n 0, 26, 0, .null), (26, .iconst 4, 27, 0, .int (nI 4)), (27, .iushr, 28, 0, .null), (28, .iadd, 29, 0, .null), (29, .ldc_w 267, 32, 0, .int (nI 252645135)), (32, .iand, 33, 0, .null), (33, .istore_n 0, 34, 0, .null), (34, .iload_n 0, 35, 0, .null), (35, .iload_n 0, 36, 0, .null), (36, .bipush 8, 38, 0, .int (nI 8)), (38, .iushr, 39, 0, .null), (39, .iadd, 40, 0, .null), (40, .istore_n 0, 41, 0, .null), (41, .iload_n 0, 42, 0, .null), (42, .iload_n 0, 43, 0, .null), (43, .bipush 16, 45, 0, .int (nI 16)), (45, .iushr, 46, 0, .null), (46, .iadd, 47, 0, .null), (47, .istore_n 0, 48, 0, .null), (48, .iload_n 0, 49, 0, .null), (49, .bipush 63, 51, 0, .int (nI 63))]
set_option maxRecDepth 100000 in
theorem ok_IN_bitCount_0 : r_IN_bitCount_0.all (am_okRowb "java/lang/Integer" prog_12_method_49_code am_big) = true := by decide +kernel
set_option maxRecDepth 100000 in
def r_IN_bitCount_1 : List am_Row := [(51, .iand, 52, 0, .null), (52, .ireturn, 53, 0, .null)]
set_option maxRecDepth 100000 in
theorem ok_IN_bitCount_1 : r_IN_bitCount_1.all (am_okRowb "java/lang/Integer" prog_12_method_49_code am_big) = true := by decide +kernel
def r_IN_bitCount : List am_Row := r_IN_bitCount_0 ++ (r_IN_bitCount_1)
def E_IN_bitCount : am_E := (am_G0, (F_IN, N_IN, C_IN), m_IN_bitCount, r_IN_bitCount)
theorem e_IN_bitCount : am_okE E_IN_bitCount := ⟨am_big_good, okT_IN, am_okRow_of (am_all_app ok_IN_bitCount_0 ok_IN_bitCount_1)⟩
set_option maxRecDepth 100000 in
def r_AR_fill_0 : List am_Row := [(0, .iconst 0, 1, 0, .int (nI 0)), (1, .istore_n 2, 2, 0, .null), (2, .aload_n 0, 3, 0, .null), (3, .arraylength, 4, 0, .null), (4, .istore_n 3, 5, 0, .null), (5, .iload_n 2, 6, 0, .null), (6, .iload_n 3, 7, 0, .null), (7, .if_icmp .ge 13, 10, 20, .null), (10, .aload_n 0, 11, 0, .null), (11, .iload_n 2, 12, 0, .null), (12, .iload_n 1, 13, 0, .null), (13, .iastore, 14, 0, .null), (14, .iinc 2 1, 17, 0, .int (nI 1)), (17, .goto (-12), 20, 5, .null), (20, .return_, 21, 0, .null)]
set_option maxRecDepth 100000 in
theorem ok_AR_fill_0 : r_AR_fill_0.all (am_okRowb "java/util/Arrays" prog_18_method_103_code am_big) = true := by decide +kernel
def r_AR_fill : List am_Row := r_AR_fill_0
def E_AR_fill : am_E := (am_G0, (F_AR, N_AR, C_AR), m_AR_fill, r_AR_fill)
theorem e_AR_fill : am_okE E_AR_fill := ⟨am_big_good, okT_AR, am_okRow_of ok_AR_fill_0⟩
set_option maxRecDepth 100000 in
def r_LW_addPlace_0 : List am_Row := [(0, .aload_n 1, 1, 0, .null), (1, .iconst 0, 2, 0, .int (nI 0)), (2, .aload_n 0, 3, 0, .null), (3, .invokevirtual 7, 6, 0, .null), (6, .i2l, 7, 0, .null), (7, .lastore, 8, 0, .null), (8, .goto 6, 11, 14, .null), (11, .astore_n 2, 12, 0, .null), (12, .iconst 1, 13, 0, .int (nI 1)), (13, .ireturn, 14, 0, .null), (14, .iconst 0, 15, 0, .int (nI 0)), (15, .ireturn, 16, 0, .null)]
set_option maxRecDepth 100000 in
theorem ok_LW_addPlace_0 : r_LW_addPlace_0.all (am_okRowb "TraceAlignerLaw" method_3_code am_big) = true := by decide +kernel
def r_LW_addPlace : List am_Row := r_LW_addPlace_0
def E_LW_addPlace : am_E := (am_G0, (F_LW, N_LW, C_LW), m_LW_addPlace, r_LW_addPlace)
theorem e_LW_addPlace : am_okE E_LW_addPlace := ⟨am_big_good, okT_LW, am_okRow_of ok_LW_addPlace_0⟩
set_option maxRecDepth 100000 in
def r_LW_addTransition_0 : List am_Row := [(0, .aload_n 2, 1, 0, .null), (1, .iconst 0, 2, 0, .int (nI 0)), (2, .aload_n 0, 3, 0, .null), (3, .iload_n 1, 4, 0, .null), (4, .invokevirtual 15, 7, 0, .null), (7, .i2l, 8, 0, .null), (8, .lastore, 9, 0, .null), (9, .goto 9, 12, 18, .null), (12, .astore_n 3, 13, 0, .null), (13, .iconst 1, 14, 0, .int (nI 1)), (14, .ireturn, 15, 0, .null), (15, .astore_n 3, 16, 0, .null), (16, .iconst 2, 17, 0, .int (nI 2)), (17, .ireturn, 18, 0, .null), (18, .iconst 0, 19, 0, .int (nI 0)), (19, .ireturn, 20, 0, .null)]
set_option maxRecDepth 100000 in
theorem ok_LW_addTransition_0 : r_LW_addTransition_0.all (am_okRowb "TraceAlignerLaw" method_4_code am_big) = true := by decide +kernel
def r_LW_addTransition : List am_Row := r_LW_addTransition_0
def E_LW_addTransition : am_E := (am_G0, (F_LW, N_LW, C_LW), m_LW_addTransition, r_LW_addTransition)
theorem e_LW_addTransition : am_okE E_LW_addTransition := ⟨am_big_good, okT_LW, am_okRow_of ok_LW_addTransition_0⟩
set_option maxRecDepth 100000 in
def r_LW_link_0 : List am_Row := [(0, .aload 5, 2, 0, .null), (2, .iconst 0, 3, 0, .int (nI 0)), (3, .aload_n 0, 4, 0, .null), (4, .iload_n 1, 5, 0, .null), (5, .iload_n 2, 6, 0, .null), (6, .iload_n 3, 7, 0, .null), (7, .iload 4, 9, 0, .null), (9, .invokevirtual 21, 12, 0, .null), (12, .ifCond .eq 7, 15, 19, .null), (15, .lconst 1, 16, 0, .long 1), (16, .goto 4, 19, 20, .null), (19, .lconst 0, 20, 0, .long 0), (20, .lastore, 21, 0, .null), (21, .goto 7, 24, 28, .null), (24, .astore 6, 26, 0, .null), (26, .iconst 1, 27, 0, .int (nI 1)), (27, .ireturn, 28, 0, .null), (28, .iconst 0, 29, 0, .int (nI 0)), (29, .ireturn, 30, 0, .null)]
set_option maxRecDepth 100000 in
theorem ok_LW_link_0 : r_LW_link_0.all (am_okRowb "TraceAlignerLaw" method_5_code am_big) = true := by decide +kernel
def r_LW_link : List am_Row := r_LW_link_0
def E_LW_link : am_E := (am_G0, (F_LW, N_LW, C_LW), m_LW_link, r_LW_link)
theorem e_LW_link : am_okE E_LW_link := ⟨am_big_good, okT_LW, am_okRow_of ok_LW_link_0⟩
set_option maxRecDepth 100000 in
def r_LW_setTokens_0 : List am_Row := [(0, .aload 4, 2, 0, .null), (2, .iconst 0, 3, 0, .int (nI 0)), (3, .aload_n 0, 4, 0, .null), (4, .iload_n 1, 5, 0, .null), (5, .iload_n 2, 6, 0, .null), (6, .iload_n 3, 7, 0, .null), (7, .invokevirtual 27, 10, 0, .null), (10, .i2l, 11, 0, .null), (11, .lastore, 12, 0, .null), (12, .goto 11, 15, 23, .null), (15, .astore 5, 17, 0, .null), (17, .iconst 1, 18, 0, .int (nI 1)), (18, .ireturn, 19, 0, .null), (19, .astore 5, 21, 0, .null), (21, .iconst 2, 22, 0, .int (nI 2)), (22, .ireturn, 23, 0, .null), (23, .iconst 0, 24, 0, .int (nI 0)), (24, .ireturn, 25, 0, .null)]
set_option maxRecDepth 100000 in
theorem ok_LW_setTokens_0 : r_LW_setTokens_0.all (am_okRowb "TraceAlignerLaw" method_6_code am_big) = true := by decide +kernel
def r_LW_setTokens : List am_Row := r_LW_setTokens_0
def E_LW_setTokens : am_E := (am_G0, (F_LW, N_LW, C_LW), m_LW_setTokens, r_LW_setTokens)
theorem e_LW_setTokens : am_okE E_LW_setTokens := ⟨am_big_good, okT_LW, am_okRow_of ok_LW_setTokens_0⟩
set_option maxRecDepth 100000 in
def r_LW_count_0 : List am_Row := [(0, .aload_n 2, 1, 0, .null), (1, .iconst 0, 2, 0, .int (nI 0)), (2, .aload_n 0, 3, 0, .null), (3, .iload_n 1, 4, 0, .null), (4, .invokevirtual 31, 7, 0, .null), (7, .i2l, 8, 0, .null), (8, .lastore, 9, 0, .null), (9, .goto 6, 12, 15, .null), (12, .astore_n 3, 13, 0, .null), (13, .iconst 1, 14, 0, .int (nI 1)), (14, .ireturn, 15, 0, .null), (15, .iconst 0, 16, 0, .int (nI 0)), (16, .ireturn, 17, 0, .null)]
set_option maxRecDepth 100000 in
theorem ok_LW_count_0 : r_LW_count_0.all (am_okRowb "TraceAlignerLaw" method_7_code am_big) = true := by decide +kernel
def r_LW_count : List am_Row := r_LW_count_0
def E_LW_count : am_E := (am_G0, (F_LW, N_LW, C_LW), m_LW_count, r_LW_count)
theorem e_LW_count : am_okE E_LW_count := ⟨am_big_good, okT_LW, am_okRow_of ok_LW_count_0⟩
set_option maxRecDepth 100000 in
def r_LW_label_0 : List am_Row := [(0, .aload_n 2, 1, 0, .null), (1, .iconst 0, 2, 0, .int (nI 0)), (2, .aload_n 0, 3, 0, .null), (3, .iload_n 1, 4, 0, .null), (4, .invokevirtual 34, 7, 0, .null), (7, .i2l, 8, 0, .null), (8, .lastore, 9, 0, .null), (9, .goto 6, 12, 15, .null), (12, .astore_n 3, 13, 0, .null), (13, .iconst 1, 14, 0, .int (nI 1)), (14, .ireturn, 15, 0, .null), (15, .iconst 0, 16, 0, .int (nI 0)), (16, .ireturn, 17, 0, .null)]
set_option maxRecDepth 100000 in
theorem ok_LW_label_0 : r_LW_label_0.all (am_okRowb "TraceAlignerLaw" method_8_code am_big) = true := by decide +kernel
def r_LW_label : List am_Row := r_LW_label_0
def E_LW_label : am_E := (am_G0, (F_LW, N_LW, C_LW), m_LW_label, r_LW_label)
theorem e_LW_label : am_okE E_LW_label := ⟨am_big_good, okT_LW, am_okRow_of ok_LW_label_0⟩
set_option maxRecDepth 100000 in
def r_LW_tokens_0 : List am_Row := [(0, .aload_n 3, 1, 0, .null), (1, .iconst 0, 2, 0, .int (nI 0)), (2, .aload_n 0, 3, 0, .null), (3, .iload_n 1, 4, 0, .null), (4, .iload_n 2, 5, 0, .null), (5, .invokevirtual 37, 8, 0, .null), (8, .i2l, 9, 0, .null), (9, .lastore, 10, 0, .null), (10, .goto 11, 13, 21, .null), (13, .astore 4, 15, 0, .null), (15, .iconst 1, 16, 0, .int (nI 1)), (16, .ireturn, 17, 0, .null), (17, .astore 4, 19, 0, .null), (19, .iconst 2, 20, 0, .int (nI 2)), (20, .ireturn, 21, 0, .null), (21, .iconst 0, 22, 0, .int (nI 0)), (22, .ireturn, 23, 0, .null)]
set_option maxRecDepth 100000 in
theorem ok_LW_tokens_0 : r_LW_tokens_0.all (am_okRowb "TraceAlignerLaw" method_9_code am_big) = true := by decide +kernel
def r_LW_tokens : List am_Row := r_LW_tokens_0
def E_LW_tokens : am_E := (am_G0, (F_LW, N_LW, C_LW), m_LW_tokens, r_LW_tokens)
theorem e_LW_tokens : am_okE E_LW_tokens := ⟨am_big_good, okT_LW, am_okRow_of ok_LW_tokens_0⟩
set_option maxRecDepth 100000 in
def r_LW_enabled_0 : List am_Row := [(0, .aload_n 2, 1, 0, .null), (1, .iconst 0, 2, 0, .int (nI 0)), (2, .aload_n 0, 3, 0, .null), (3, .iload_n 1, 4, 0, .null), (4, .invokevirtual 41, 7, 0, .null), (7, .i2l, 8, 0, .null), (8, .lastore, 9, 0, .null), (9, .goto 9, 12, 18, .null), (12, .astore_n 3, 13, 0, .null), (13, .iconst 1, 14, 0, .int (nI 1)), (14, .ireturn, 15, 0, .null), (15, .astore_n 3, 16, 0, .null), (16, .iconst 2, 17, 0, .int (nI 2)), (17, .ireturn, 18, 0, .null), (18, .iconst 0, 19, 0, .int (nI 0)), (19, .ireturn, 20, 0, .null)]
set_option maxRecDepth 100000 in
theorem ok_LW_enabled_0 : r_LW_enabled_0.all (am_okRowb "TraceAlignerLaw" method_10_code am_big) = true := by decide +kernel
def r_LW_enabled : List am_Row := r_LW_enabled_0
def E_LW_enabled : am_E := (am_G0, (F_LW, N_LW, C_LW), m_LW_enabled, r_LW_enabled)
theorem e_LW_enabled : am_okE E_LW_enabled := ⟨am_big_good, okT_LW, am_okRow_of ok_LW_enabled_0⟩
set_option maxRecDepth 100000 in
def r_LW_next_0 : List am_Row := [(0, .aload_n 3, 1, 0, .null), (1, .iconst 0, 2, 0, .int (nI 0)), (2, .aload_n 0, 3, 0, .null), (3, .iload_n 1, 4, 0, .null), (4, .iload_n 2, 5, 0, .null), (5, .invokevirtual 44, 8, 0, .null), (8, .i2l, 9, 0, .null), (9, .lastore, 10, 0, .null), (10, .goto 11, 13, 21, .null), (13, .astore 4, 15, 0, .null), (15, .iconst 1, 16, 0, .int (nI 1)), (16, .ireturn, 17, 0, .null), (17, .astore 4, 19, 0, .null), (19, .iconst 2, 20, 0, .int (nI 2)), (20, .ireturn, 21, 0, .null), (21, .iconst 0, 22, 0, .int (nI 0)), (22, .ireturn, 23, 0, .null)]
set_option maxRecDepth 100000 in
theorem ok_LW_next_0 : r_LW_next_0.all (am_okRowb "TraceAlignerLaw" method_11_code am_big) = true := by decide +kernel
def r_LW_next : List am_Row := r_LW_next_0
def E_LW_next : am_E := (am_G0, (F_LW, N_LW, C_LW), m_LW_next, r_LW_next)
theorem e_LW_next : am_okE E_LW_next := ⟨am_big_good, okT_LW, am_okRow_of ok_LW_next_0⟩
set_option maxRecDepth 100000 in
def r_LW_last_0 : List am_Row := [(0, .aload_n 1, 1, 0, .null), (1, .iconst 0, 2, 0, .int (nI 0)), (2, .aload_n 0, 3, 0, .null), (3, .invokevirtual 47, 6, 0, .null), (6, .i2l, 7, 0, .null), (7, .lastore, 8, 0, .null), (8, .goto 6, 11, 14, .null), (11, .astore_n 2, 12, 0, .null), (12, .iconst 1, 13, 0, .int (nI 1)), (13, .ireturn, 14, 0, .null), (14, .iconst 0, 15, 0, .int (nI 0)), (15, .ireturn, 16, 0, .null)]
set_option maxRecDepth 100000 in
theorem ok_LW_last_0 : r_LW_last_0.all (am_okRowb "TraceAlignerLaw" method_12_code am_big) = true := by decide +kernel
def r_LW_last : List am_Row := r_LW_last_0
def E_LW_last : am_E := (am_G0, (F_LW, N_LW, C_LW), m_LW_last, r_LW_last)
theorem e_LW_last : am_okE E_LW_last := ⟨am_big_good, okT_LW, am_okRow_of ok_LW_last_0⟩
set_option maxRecDepth 100000 in
def r_LW_dead_0 : List am_Row := [(0, .aload_n 1, 1, 0, .null), (1, .iconst 0, 2, 0, .int (nI 0)), (2, .aload_n 0, 3, 0, .null), (3, .invokevirtual 50, 6, 0, .null), (6, .i2l, 7, 0, .null), (7, .lastore, 8, 0, .null), (8, .goto 6, 11, 14, .null), (11, .astore_n 2, 12, 0, .null), (12, .iconst 1, 13, 0, .int (nI 1)), (13, .ireturn, 14, 0, .null), (14, .iconst 0, 15, 0, .int (nI 0)), (15, .ireturn, 16, 0, .null)]
set_option maxRecDepth 100000 in
theorem ok_LW_dead_0 : r_LW_dead_0.all (am_okRowb "TraceAlignerLaw" method_13_code am_big) = true := by decide +kernel
def r_LW_dead : List am_Row := r_LW_dead_0
def E_LW_dead : am_E := (am_G0, (F_LW, N_LW, C_LW), m_LW_dead, r_LW_dead)
theorem e_LW_dead : am_okE E_LW_dead := ⟨am_big_good, okT_LW, am_okRow_of ok_LW_dead_0⟩
set_option maxRecDepth 100000 in
def r_LW_live_0 : List am_Row := [(0, .aload_n 1, 1, 0, .null), (1, .iconst 0, 2, 0, .int (nI 0)), (2, .aload_n 0, 3, 0, .null), (3, .invokevirtual 53, 6, 0, .null), (6, .i2l, 7, 0, .null), (7, .lastore, 8, 0, .null), (8, .goto 6, 11, 14, .null), (11, .astore_n 2, 12, 0, .null), (12, .iconst 1, 13, 0, .int (nI 1)), (13, .ireturn, 14, 0, .null), (14, .iconst 0, 15, 0, .int (nI 0)), (15, .ireturn, 16, 0, .null)]
set_option maxRecDepth 100000 in
theorem ok_LW_live_0 : r_LW_live_0.all (am_okRowb "TraceAlignerLaw" method_14_code am_big) = true := by decide +kernel
def r_LW_live : List am_Row := r_LW_live_0
def E_LW_live : am_E := (am_G0, (F_LW, N_LW, C_LW), m_LW_live, r_LW_live)
theorem e_LW_live : am_okE E_LW_live := ⟨am_big_good, okT_LW, am_okRow_of ok_LW_live_0⟩
set_option maxRecDepth 100000 in
def r_LW_away_0 : List am_Row := [(0, .aload_n 2, 1, 0, .null), (1, .iconst 0, 2, 0, .int (nI 0)), (2, .aload_n 0, 3, 0, .null), (3, .iload_n 1, 4, 0, .null), (4, .invokevirtual 56, 7, 0, .null), (7, .i2l, 8, 0, .null), (8, .lastore, 9, 0, .null), (9, .goto 9, 12, 18, .null), (12, .astore_n 3, 13, 0, .null), (13, .iconst 1, 14, 0, .int (nI 1)), (14, .ireturn, 15, 0, .null), (15, .astore_n 3, 16, 0, .null), (16, .iconst 2, 17, 0, .int (nI 2)), (17, .ireturn, 18, 0, .null), (18, .iconst 0, 19, 0, .int (nI 0)), (19, .ireturn, 20, 0, .null)]
set_option maxRecDepth 100000 in
theorem ok_LW_away_0 : r_LW_away_0.all (am_okRowb "TraceAlignerLaw" method_15_code am_big) = true := by decide +kernel
def r_LW_away : List am_Row := r_LW_away_0
def E_LW_away : am_E := (am_G0, (F_LW, N_LW, C_LW), m_LW_away, r_LW_away)
theorem e_LW_away : am_okE E_LW_away := ⟨am_big_good, okT_LW, am_okRow_of ok_LW_away_0⟩
set_option maxRecDepth 100000 in
def r_LW_event_0 : List am_Row := [(0, .aload_n 2, 1, 0, .null), (1, .iconst 0, 2, 0, .int (nI 0)), (2, .aload_n 0, 3, 0, .null), (3, .iload_n 1, 4, 0, .null), (4, .invokevirtual 59, 7, 0, .null), (7, .i2l, 8, 0, .null), (8, .lastore, 9, 0, .null), (9, .goto 9, 12, 18, .null), (12, .astore_n 3, 13, 0, .null), (13, .iconst 1, 14, 0, .int (nI 1)), (14, .ireturn, 15, 0, .null), (15, .astore_n 3, 16, 0, .null), (16, .iconst 2, 17, 0, .int (nI 2)), (17, .ireturn, 18, 0, .null), (18, .iconst 0, 19, 0, .int (nI 0)), (19, .ireturn, 20, 0, .null)]
set_option maxRecDepth 100000 in
theorem ok_LW_event_0 : r_LW_event_0.all (am_okRowb "TraceAlignerLaw" method_16_code am_big) = true := by decide +kernel
def r_LW_event : List am_Row := r_LW_event_0
def E_LW_event : am_E := (am_G0, (F_LW, N_LW, C_LW), m_LW_event, r_LW_event)
theorem e_LW_event : am_okE E_LW_event := ⟨am_big_good, okT_LW, am_okRow_of ok_LW_event_0⟩
set_option maxRecDepth 100000 in
def r_LW_store_0 : List am_Row := [(0, .aload_n 2, 1, 0, .null), (1, .iconst 0, 2, 0, .int (nI 0)), (2, .aload_n 0, 3, 0, .null), (3, .iload_n 1, 4, 0, .null), (4, .invokevirtual 62, 7, 0, .null), (7, .i2l, 8, 0, .null), (8, .lastore, 9, 0, .null), (9, .goto 9, 12, 18, .null), (12, .astore_n 3, 13, 0, .null), (13, .iconst 1, 14, 0, .int (nI 1)), (14, .ireturn, 15, 0, .null), (15, .astore_n 3, 16, 0, .null), (16, .iconst 2, 17, 0, .int (nI 2)), (17, .ireturn, 18, 0, .null), (18, .iconst 0, 19, 0, .int (nI 0)), (19, .ireturn, 20, 0, .null)]
set_option maxRecDepth 100000 in
theorem ok_LW_store_0 : r_LW_store_0.all (am_okRowb "TraceAlignerLaw" method_17_code am_big) = true := by decide +kernel
def r_LW_store : List am_Row := r_LW_store_0
def E_LW_store : am_E := (am_G0, (F_LW, N_LW, C_LW), m_LW_store, r_LW_store)
theorem e_LW_store : am_okE E_LW_store := ⟨am_big_good, okT_LW, am_okRow_of ok_LW_store_0⟩
set_option maxRecDepth 100000 in
def r_LW_dropTrace_0 : List am_Row := [(0, .aload_n 1, 1, 0, .null), (1, .iconst 0, 2, 0, .int (nI 0)), (2, .aload_n 0, 3, 0, .null), (3, .invokevirtual 65, 6, 0, .null), (6, .i2l, 7, 0, .null), (7, .lastore, 8, 0, .null), (8, .goto 6, 11, 14, .null), (11, .astore_n 2, 12, 0, .null), (12, .iconst 1, 13, 0, .int (nI 1)), (13, .ireturn, 14, 0, .null), (14, .iconst 0, 15, 0, .int (nI 0)), (15, .ireturn, 16, 0, .null)]
set_option maxRecDepth 100000 in
theorem ok_LW_dropTrace_0 : r_LW_dropTrace_0.all (am_okRowb "TraceAlignerLaw" method_18_code am_big) = true := by decide +kernel
def r_LW_dropTrace : List am_Row := r_LW_dropTrace_0
def E_LW_dropTrace : am_E := (am_G0, (F_LW, N_LW, C_LW), m_LW_dropTrace, r_LW_dropTrace)
theorem e_LW_dropTrace : am_okE E_LW_dropTrace := ⟨am_big_good, okT_LW, am_okRow_of ok_LW_dropTrace_0⟩
set_option maxRecDepth 100000 in
def r_LW_length_0 : List am_Row := [(0, .aload_n 2, 1, 0, .null), (1, .iconst 0, 2, 0, .int (nI 0)), (2, .aload_n 0, 3, 0, .null), (3, .iload_n 1, 4, 0, .null), (4, .invokevirtual 68, 7, 0, .null), (7, .i2l, 8, 0, .null), (8, .lastore, 9, 0, .null), (9, .goto 6, 12, 15, .null), (12, .astore_n 3, 13, 0, .null), (13, .iconst 1, 14, 0, .int (nI 1)), (14, .ireturn, 15, 0, .null), (15, .iconst 0, 16, 0, .int (nI 0)), (16, .ireturn, 17, 0, .null)]
set_option maxRecDepth 100000 in
theorem ok_LW_length_0 : r_LW_length_0.all (am_okRowb "TraceAlignerLaw" method_19_code am_big) = true := by decide +kernel
def r_LW_length : List am_Row := r_LW_length_0
def E_LW_length : am_E := (am_G0, (F_LW, N_LW, C_LW), m_LW_length, r_LW_length)
theorem e_LW_length : am_okE E_LW_length := ⟨am_big_good, okT_LW, am_okRow_of ok_LW_length_0⟩
set_option maxRecDepth 100000 in
def r_LW_setLabelCost_0 : List am_Row := [(0, .aload_n 3, 1, 0, .null), (1, .iconst 0, 2, 0, .int (nI 0)), (2, .aload_n 0, 3, 0, .null), (3, .iload_n 1, 4, 0, .null), (4, .iload_n 2, 5, 0, .null), (5, .invokevirtual 71, 8, 0, .null), (8, .i2l, 9, 0, .null), (9, .lastore, 10, 0, .null), (10, .goto 11, 13, 21, .null), (13, .astore 4, 15, 0, .null), (15, .iconst 1, 16, 0, .int (nI 1)), (16, .ireturn, 17, 0, .null), (17, .astore 4, 19, 0, .null), (19, .iconst 2, 20, 0, .int (nI 2)), (20, .ireturn, 21, 0, .null), (21, .iconst 0, 22, 0, .int (nI 0)), (22, .ireturn, 23, 0, .null)]
set_option maxRecDepth 100000 in
theorem ok_LW_setLabelCost_0 : r_LW_setLabelCost_0.all (am_okRowb "TraceAlignerLaw" method_20_code am_big) = true := by decide +kernel
def r_LW_setLabelCost : List am_Row := r_LW_setLabelCost_0
def E_LW_setLabelCost : am_E := (am_G0, (F_LW, N_LW, C_LW), m_LW_setLabelCost, r_LW_setLabelCost)
theorem e_LW_setLabelCost : am_okE E_LW_setLabelCost := ⟨am_big_good, okT_LW, am_okRow_of ok_LW_setLabelCost_0⟩
set_option maxRecDepth 100000 in
def r_LW_setCost_0 : List am_Row := [(0, .aload_n 3, 1, 0, .null), (1, .iconst 0, 2, 0, .int (nI 0)), (2, .aload_n 0, 3, 0, .null), (3, .iload_n 1, 4, 0, .null), (4, .iload_n 2, 5, 0, .null), (5, .invokevirtual 74, 8, 0, .null), (8, .i2l, 9, 0, .null), (9, .lastore, 10, 0, .null), (10, .goto 11, 13, 21, .null), (13, .astore 4, 15, 0, .null), (15, .iconst 1, 16, 0, .int (nI 1)), (16, .ireturn, 17, 0, .null), (17, .astore 4, 19, 0, .null), (19, .iconst 2, 20, 0, .int (nI 2)), (20, .ireturn, 21, 0, .null), (21, .iconst 0, 22, 0, .int (nI 0)), (22, .ireturn, 23, 0, .null)]
set_option maxRecDepth 100000 in
theorem ok_LW_setCost_0 : r_LW_setCost_0.all (am_okRowb "TraceAlignerLaw" method_21_code am_big) = true := by decide +kernel
def r_LW_setCost : List am_Row := r_LW_setCost_0
def E_LW_setCost : am_E := (am_G0, (F_LW, N_LW, C_LW), m_LW_setCost, r_LW_setCost)
theorem e_LW_setCost : am_okE E_LW_setCost := ⟨am_big_good, okT_LW, am_okRow_of ok_LW_setCost_0⟩
set_option maxRecDepth 100000 in
def r_LW_cost_0 : List am_Row := [(0, .aload_n 2, 1, 0, .null), (1, .iconst 0, 2, 0, .int (nI 0)), (2, .aload_n 0, 3, 0, .null), (3, .iload_n 1, 4, 0, .null), (4, .invokevirtual 77, 7, 0, .null), (7, .i2l, 8, 0, .null), (8, .lastore, 9, 0, .null), (9, .goto 9, 12, 18, .null), (12, .astore_n 3, 13, 0, .null), (13, .iconst 1, 14, 0, .int (nI 1)), (14, .ireturn, 15, 0, .null), (15, .astore_n 3, 16, 0, .null), (16, .iconst 2, 17, 0, .int (nI 2)), (17, .ireturn, 18, 0, .null), (18, .iconst 0, 19, 0, .int (nI 0)), (19, .ireturn, 20, 0, .null)]
set_option maxRecDepth 100000 in
theorem ok_LW_cost_0 : r_LW_cost_0.all (am_okRowb "TraceAlignerLaw" method_22_code am_big) = true := by decide +kernel
def r_LW_cost : List am_Row := r_LW_cost_0
def E_LW_cost : am_E := (am_G0, (F_LW, N_LW, C_LW), m_LW_cost, r_LW_cost)
theorem e_LW_cost : am_okE E_LW_cost := ⟨am_big_good, okT_LW, am_okRow_of ok_LW_cost_0⟩
set_option maxRecDepth 100000 in
def r_LW_moves_0 : List am_Row := [(0, .aload_n 2, 1, 0, .null), (1, .iconst 0, 2, 0, .int (nI 0)), (2, .aload_n 0, 3, 0, .null), (3, .iload_n 1, 4, 0, .null), (4, .invokevirtual 80, 7, 0, .null), (7, .i2l, 8, 0, .null), (8, .lastore, 9, 0, .null), (9, .goto 9, 12, 18, .null), (12, .astore_n 3, 13, 0, .null), (13, .iconst 1, 14, 0, .int (nI 1)), (14, .ireturn, 15, 0, .null), (15, .astore_n 3, 16, 0, .null), (16, .iconst 2, 17, 0, .int (nI 2)), (17, .ireturn, 18, 0, .null), (18, .iconst 0, 19, 0, .int (nI 0)), (19, .ireturn, 20, 0, .null)]
set_option maxRecDepth 100000 in
theorem ok_LW_moves_0 : r_LW_moves_0.all (am_okRowb "TraceAlignerLaw" method_23_code am_big) = true := by decide +kernel
def r_LW_moves : List am_Row := r_LW_moves_0
def E_LW_moves : am_E := (am_G0, (F_LW, N_LW, C_LW), m_LW_moves, r_LW_moves)
theorem e_LW_moves : am_okE E_LW_moves := ⟨am_big_good, okT_LW, am_okRow_of ok_LW_moves_0⟩
set_option maxRecDepth 100000 in
def r_LW_move_0 : List am_Row := [(0, .aload 4, 2, 0, .null), (2, .iconst 0, 3, 0, .int (nI 0)), (3, .aload_n 0, 4, 0, .null), (4, .iload_n 1, 5, 0, .null), (5, .iload_n 2, 6, 0, .null), (6, .iload_n 3, 7, 0, .null), (7, .invokevirtual 83, 10, 0, .null), (10, .i2l, 11, 0, .null), (11, .lastore, 12, 0, .null), (12, .goto 15, 15, 27, .null), (15, .astore 5, 17, 0, .null), (17, .iconst 1, 18, 0, .int (nI 1)), (18, .ireturn, 19, 0, .null), (19, .astore 5, 21, 0, .null), (21, .iconst 2, 22, 0, .int (nI 2)), (22, .ireturn, 23, 0, .null), (23, .astore 5, 25, 0, .null), (25, .iconst 3, 26, 0, .int (nI 3)), (26, .ireturn, 27, 0, .null), (27, .iconst 0, 28, 0, .int (nI 0)), (28, .ireturn, 29, 0, .null)]
set_option maxRecDepth 100000 in
theorem ok_LW_move_0 : r_LW_move_0.all (am_okRowb "TraceAlignerLaw" method_24_code am_big) = true := by decide +kernel
def r_LW_move : List am_Row := r_LW_move_0
def E_LW_move : am_E := (am_G0, (F_LW, N_LW, C_LW), m_LW_move, r_LW_move)
theorem e_LW_move : am_okE E_LW_move := ⟨am_big_good, okT_LW, am_okRow_of ok_LW_move_0⟩
set_option maxRecDepth 100000 in
def r_LW_worst_0 : List am_Row := [(0, .aload_n 2, 1, 0, .null), (1, .iconst 0, 2, 0, .int (nI 0)), (2, .aload_n 0, 3, 0, .null), (3, .iload_n 1, 4, 0, .null), (4, .invokevirtual 87, 7, 0, .null), (7, .i2l, 8, 0, .null), (8, .lastore, 9, 0, .null), (9, .goto 9, 12, 18, .null), (12, .astore_n 3, 13, 0, .null), (13, .iconst 1, 14, 0, .int (nI 1)), (14, .ireturn, 15, 0, .null), (15, .astore_n 3, 16, 0, .null), (16, .iconst 2, 17, 0, .int (nI 2)), (17, .ireturn, 18, 0, .null), (18, .iconst 0, 19, 0, .int (nI 0)), (19, .ireturn, 20, 0, .null)]
set_option maxRecDepth 100000 in
theorem ok_LW_worst_0 : r_LW_worst_0.all (am_okRowb "TraceAlignerLaw" method_25_code am_big) = true := by decide +kernel
def r_LW_worst : List am_Row := r_LW_worst_0
def E_LW_worst : am_E := (am_G0, (F_LW, N_LW, C_LW), m_LW_worst, r_LW_worst)
theorem e_LW_worst : am_okE E_LW_worst := ⟨am_big_good, okT_LW, am_okRow_of ok_LW_worst_0⟩
set_option maxRecDepth 100000 in
def r_LW_fitness_0 : List am_Row := [(0, .aload_n 2, 1, 0, .null), (1, .iconst 0, 2, 0, .int (nI 0)), (2, .aload_n 0, 3, 0, .null), (3, .iload_n 1, 4, 0, .null), (4, .invokevirtual 90, 7, 0, .null), (7, .dastore, 8, 0, .null), (8, .goto 9, 11, 17, .null), (11, .astore_n 3, 12, 0, .null), (12, .iconst 1, 13, 0, .int (nI 1)), (13, .ireturn, 14, 0, .null), (14, .astore_n 3, 15, 0, .null), (15, .iconst 2, 16, 0, .int (nI 2)), (16, .ireturn, 17, 0, .null), (17, .iconst 0, 18, 0, .int (nI 0)), (18, .ireturn, 19, 0, .null)]
set_option maxRecDepth 100000 in
theorem ok_LW_fitness_0 : r_LW_fitness_0.all (am_okRowb "TraceAlignerLaw" method_26_code am_big) = true := by decide +kernel
def r_LW_fitness : List am_Row := r_LW_fitness_0
def E_LW_fitness : am_E := (am_G0, (F_LW, N_LW, C_LW), m_LW_fitness, r_LW_fitness)
theorem e_LW_fitness : am_okE E_LW_fitness := ⟨am_big_good, okT_LW, am_okRow_of ok_LW_fitness_0⟩
set_option maxRecDepth 100000 in
def r_LW_total_0 : List am_Row := [(0, .aload_n 3, 1, 0, .null), (1, .iconst 0, 2, 0, .int (nI 0)), (2, .aload_n 0, 3, 0, .null), (3, .iload_n 1, 4, 0, .null), (4, .iload_n 2, 5, 0, .null), (5, .invokevirtual 94, 8, 0, .null), (8, .i2l, 9, 0, .null), (9, .lastore, 10, 0, .null), (10, .goto 11, 13, 21, .null), (13, .astore 4, 15, 0, .null), (15, .iconst 1, 16, 0, .int (nI 1)), (16, .ireturn, 17, 0, .null), (17, .astore 4, 19, 0, .null), (19, .iconst 2, 20, 0, .int (nI 2)), (20, .ireturn, 21, 0, .null), (21, .iconst 0, 22, 0, .int (nI 0)), (22, .ireturn, 23, 0, .null)]
set_option maxRecDepth 100000 in
theorem ok_LW_total_0 : r_LW_total_0.all (am_okRowb "TraceAlignerLaw" method_27_code am_big) = true := by decide +kernel
def r_LW_total : List am_Row := r_LW_total_0
def E_LW_total : am_E := (am_G0, (F_LW, N_LW, C_LW), m_LW_total, r_LW_total)
theorem e_LW_total : am_okE E_LW_total := ⟨am_big_good, okT_LW, am_okRow_of ok_LW_total_0⟩
set_option maxRecDepth 100000 in
def r_LW_allFitness_0 : List am_Row := [(0, .aload_n 1, 1, 0, .null), (1, .iconst 0, 2, 0, .int (nI 0)), (2, .aload_n 0, 3, 0, .null), (3, .invokevirtual 97, 6, 0, .null), (6, .dastore, 7, 0, .null), (7, .goto 6, 10, 13, .null), (10, .astore_n 2, 11, 0, .null), (11, .iconst 1, 12, 0, .int (nI 1)), (12, .ireturn, 13, 0, .null), (13, .iconst 0, 14, 0, .int (nI 0)), (14, .ireturn, 15, 0, .null)]
set_option maxRecDepth 100000 in
theorem ok_LW_allFitness_0 : r_LW_allFitness_0.all (am_okRowb "TraceAlignerLaw" method_28_code am_big) = true := by decide +kernel
def r_LW_allFitness : List am_Row := r_LW_allFitness_0
def E_LW_allFitness : am_E := (am_G0, (F_LW, N_LW, C_LW), m_LW_allFitness, r_LW_allFitness)
theorem e_LW_allFitness : am_okE E_LW_allFitness := ⟨am_big_good, okT_LW, am_okRow_of ok_LW_allFitness_0⟩
set_option maxRecDepth 100000 in
def r_LW_precision_0 : List am_Row := [(0, .aload_n 1, 1, 0, .null), (1, .iconst 0, 2, 0, .int (nI 0)), (2, .aload_n 0, 3, 0, .null), (3, .invokevirtual 101, 6, 0, .null), (6, .dastore, 7, 0, .null), (7, .goto 6, 10, 13, .null), (10, .astore_n 2, 11, 0, .null), (11, .iconst 1, 12, 0, .int (nI 1)), (12, .ireturn, 13, 0, .null), (13, .iconst 0, 14, 0, .int (nI 0)), (14, .ireturn, 15, 0, .null)]
set_option maxRecDepth 100000 in
theorem ok_LW_precision_0 : r_LW_precision_0.all (am_okRowb "TraceAlignerLaw" method_29_code am_big) = true := by decide +kernel
def r_LW_precision : List am_Row := r_LW_precision_0
def E_LW_precision : am_E := (am_G0, (F_LW, N_LW, C_LW), m_LW_precision, r_LW_precision)
theorem e_LW_precision : am_okE E_LW_precision := ⟨am_big_good, okT_LW, am_okRow_of ok_LW_precision_0⟩
set_option maxRecDepth 100000 in
def r_LW_law_0 : List am_Row := [(0, .new 8, 3, 0, .null), (3, .dup, 4, 0, .null), (4, .invokespecial 104, 7, 0, .null), (7, .astore_n 1, 8, 0, .null), (8, .new 105, 11, 0, .null), (11, .dup, 12, 0, .null), (12, .invokespecial 107, 15, 0, .null), (15, .astore_n 2, 16, 0, .null), (16, .iconst 1, 17, 0, .int (nI 1)), (17, .newarray .long, 19, 0, .null), (19, .astore_n 3, 20, 0, .null), (20, .iconst 1, 21, 0, .int (nI 1)), (21, .newarray .double, 23, 0, .null), (23, .astore 4, 25, 0, .null), (25, .iconst 0, 26, 0, .int (nI 0)), (26, .istore 5, 28, 0, .null), (28, .iload 5, 30, 0, .null), (30, .aload_n 0, 31, 0, .null), (31, .arraylength, 32, 0, .null), (32, .iconst 5, 33, 0, .int (nI 5)), (33, .isub, 34, 0, .null), (34, .if_icmp .gt 1865, 37, 1899, .null), (37, .aload_n 0, 38, 0, .null), (38, .iload 5, 40, 0, .null), (40, .iaload, 41, 0, .null), (41, .bipush 31, 43, 0, .int (nI 31)), (43, .iand, 44, 0, .null), (176, .aload_n 1, 177, 0, .null), (177, .aload_n 3, 178, 0, .null), (178, .invokestatic 108, 181, 0, .null), (181, .istore 6, 183, 0, .null), (183, .aload_n 2, 184, 0, .null), (184, .invokevirtual 113, 187, 0, .null), (187, .istore 7, 189, 0, .null), (189, .aload_n 2, 190, 0, .null), (190, .invokevirtual 114, 193, 0, .null), (193, .iload 6, 195, 0, .null), (195, .if_icmp .eq 5, 198, 200, .null), (198, .iconst 0, 199, 0, .int (nI 0)), (199, .ireturn, 200, 0, .null)]
set_option maxRecDepth 100000 in
theorem ok_LW_law_0 : r_LW_law_0.all (am_okRowb "TraceAlignerLaw" code am_big) = true := by decide +kernel
set_option maxRecDepth 100000 in
def r_LW_law_1 : List am_Row := [(200, .iload 6, 202, 0, .null), (202, .ifCond .ne 15, 205, 217, .null), (205, .aload_n 3, 206, 0, .null), (206, .iconst 0, 207, 0, .int (nI 0)), (207, .laload, 208, 0, .null), (208, .iload 7, 210, 0, .null), (210, .i2l, 211, 0, .null), (211, .lcmp, 212, 0, .null), (212, .ifCond .eq 5, 215, 217, .null), (215, .iconst 0, 216, 0, .int (nI 0)), (216, .ireturn, 217, 0, .null), (217, .goto 1676, 220, 1893, .null), (220, .aload_n 1, 221, 0, .null), (221, .aload_n 0, 222, 0, .null), (222, .iload 5, 224, 0, .null), (224, .iconst 1, 225, 0, .int (nI 1)), (225, .iadd, 226, 0, .null), (226, .iaload, 227, 0, .null), (227, .aload_n 3, 228, 0, .null), (228, .invokestatic 117, 231, 0, .null), (231, .istore 6, 233, 0, .null), (233, .aload_n 2, 234, 0, .null), (234, .aload_n 0, 235, 0, .null), (235, .iload 5, 237, 0, .null), (237, .iconst 1, 238, 0, .int (nI 1)), (238, .iadd, 239, 0, .null), (239, .iaload, 240, 0, .null), (240, .invokevirtual 120, 243, 0, .null), (243, .istore 7, 245, 0, .null), (245, .aload_n 2, 246, 0, .null), (246, .invokevirtual 114, 249, 0, .null), (249, .iload 6, 251, 0, .null), (251, .if_icmp .eq 5, 254, 256, .null), (254, .iconst 0, 255, 0, .int (nI 0)), (255, .ireturn, 256, 0, .null), (256, .iload 6, 258, 0, .null), (258, .ifCond .ne 15, 261, 273, .null), (261, .aload_n 3, 262, 0, .null), (262, .iconst 0, 263, 0, .int (nI 0)), (263, .laload, 264, 0, .null)]
set_option maxRecDepth 100000 in
theorem ok_LW_law_1 : r_LW_law_1.all (am_okRowb "TraceAlignerLaw" code am_big) = true := by decide +kernel
set_option maxRecDepth 100000 in
def r_LW_law_2 : List am_Row := [(264, .iload 7, 266, 0, .null), (266, .i2l, 267, 0, .null), (267, .lcmp, 268, 0, .null), (268, .ifCond .eq 5, 271, 273, .null), (271, .iconst 0, 272, 0, .int (nI 0)), (272, .ireturn, 273, 0, .null), (273, .goto 1620, 276, 1893, .null), (276, .aload_n 1, 277, 0, .null), (277, .aload_n 0, 278, 0, .null), (278, .iload 5, 280, 0, .null), (280, .iconst 1, 281, 0, .int (nI 1)), (281, .iadd, 282, 0, .null), (282, .iaload, 283, 0, .null), (283, .aload_n 0, 284, 0, .null), (284, .iload 5, 286, 0, .null), (286, .iconst 2, 287, 0, .int (nI 2)), (287, .iadd, 288, 0, .null), (288, .iaload, 289, 0, .null), (289, .aload_n 0, 290, 0, .null), (290, .iload 5, 292, 0, .null), (292, .iconst 3, 293, 0, .int (nI 3)), (293, .iadd, 294, 0, .null), (294, .iaload, 295, 0, .null), (295, .ifCond .eq 7, 298, 302, .null), (298, .iconst 1, 299, 0, .int (nI 1)), (299, .goto 4, 302, 303, .null), (302, .iconst 0, 303, 0, .int (nI 0)), (303, .aload_n 0, 304, 0, .null), (304, .iload 5, 306, 0, .null), (306, .iconst 4, 307, 0, .int (nI 4)), (307, .iadd, 308, 0, .null), (308, .iaload, 309, 0, .null), (309, .ifCond .eq 7, 312, 316, .null), (312, .iconst 1, 313, 0, .int (nI 1)), (313, .goto 4, 316, 317, .null), (316, .iconst 0, 317, 0, .int (nI 0)), (317, .aload_n 3, 318, 0, .null), (318, .invokestatic 121, 321, 0, .null), (321, .istore 6, 323, 0, .null), (323, .aload_n 2, 324, 0, .null)]
set_option maxRecDepth 100000 in
theorem ok_LW_law_2 : r_LW_law_2.all (am_okRowb "TraceAlignerLaw" code am_big) = true := by decide +kernel
set_option maxRecDepth 100000 in
def r_LW_law_3 : List am_Row := [(324, .aload_n 0, 325, 0, .null), (325, .iload 5, 327, 0, .null), (327, .iconst 1, 328, 0, .int (nI 1)), (328, .iadd, 329, 0, .null), (329, .iaload, 330, 0, .null), (330, .aload_n 0, 331, 0, .null), (331, .iload 5, 333, 0, .null), (333, .iconst 2, 334, 0, .int (nI 2)), (334, .iadd, 335, 0, .null), (335, .iaload, 336, 0, .null), (336, .aload_n 0, 337, 0, .null), (337, .iload 5, 339, 0, .null), (339, .iconst 3, 340, 0, .int (nI 3)), (340, .iadd, 341, 0, .null), (341, .iaload, 342, 0, .null), (342, .ifCond .eq 7, 345, 349, .null), (345, .iconst 1, 346, 0, .int (nI 1)), (346, .goto 4, 349, 350, .null), (349, .iconst 0, 350, 0, .int (nI 0)), (350, .aload_n 0, 351, 0, .null), (351, .iload 5, 353, 0, .null), (353, .iconst 4, 354, 0, .int (nI 4)), (354, .iadd, 355, 0, .null), (355, .iaload, 356, 0, .null), (356, .ifCond .eq 7, 359, 363, .null), (359, .iconst 1, 360, 0, .int (nI 1)), (360, .goto 4, 363, 364, .null), (363, .iconst 0, 364, 0, .int (nI 0)), (364, .invokevirtual 124, 367, 0, .null), (367, .istore 7, 369, 0, .null), (369, .aload_n 2, 370, 0, .null), (370, .invokevirtual 114, 373, 0, .null), (373, .iload 6, 375, 0, .null), (375, .if_icmp .eq 5, 378, 380, .null), (378, .iconst 0, 379, 0, .int (nI 0)), (379, .ireturn, 380, 0, .null), (380, .iload 6, 382, 0, .null), (382, .ifCond .ne 22, 385, 404, .null), (385, .aload_n 3, 386, 0, .null), (386, .iconst 0, 387, 0, .int (nI 0))]
set_option maxRecDepth 100000 in
theorem ok_LW_law_3 : r_LW_law_3.all (am_okRowb "TraceAlignerLaw" code am_big) = true := by decide +kernel
set_option maxRecDepth 100000 in
def r_LW_law_4 : List am_Row := [(387, .laload, 388, 0, .null), (388, .iload 7, 390, 0, .null), (390, .ifCond .eq 7, 393, 397, .null), (393, .lconst 1, 394, 0, .long 1), (394, .goto 4, 397, 398, .null), (397, .lconst 0, 398, 0, .long 0), (398, .lcmp, 399, 0, .null), (399, .ifCond .eq 5, 402, 404, .null), (402, .iconst 0, 403, 0, .int (nI 0)), (403, .ireturn, 404, 0, .null), (404, .goto 1489, 407, 1893, .null), (407, .aload_n 1, 408, 0, .null), (408, .aload_n 0, 409, 0, .null), (409, .iload 5, 411, 0, .null), (411, .iconst 1, 412, 0, .int (nI 1)), (412, .iadd, 413, 0, .null), (413, .iaload, 414, 0, .null), (414, .aload_n 0, 415, 0, .null), (415, .iload 5, 417, 0, .null), (417, .iconst 2, 418, 0, .int (nI 2)), (418, .iadd, 419, 0, .null), (419, .iaload, 420, 0, .null), (420, .aload_n 0, 421, 0, .null), (421, .iload 5, 423, 0, .null), (423, .iconst 3, 424, 0, .int (nI 3)), (424, .iadd, 425, 0, .null), (425, .iaload, 426, 0, .null), (426, .ifCond .eq 7, 429, 433, .null), (429, .iconst 1, 430, 0, .int (nI 1)), (430, .goto 4, 433, 434, .null), (433, .iconst 0, 434, 0, .int (nI 0)), (434, .aload_n 3, 435, 0, .null), (435, .invokestatic 125, 438, 0, .null), (438, .istore 6, 440, 0, .null), (440, .aload_n 2, 441, 0, .null), (441, .aload_n 0, 442, 0, .null), (442, .iload 5, 444, 0, .null), (444, .iconst 1, 445, 0, .int (nI 1)), (445, .iadd, 446, 0, .null), (446, .iaload, 447, 0, .null)]
set_option maxRecDepth 100000 in
theorem ok_LW_law_4 : r_LW_law_4.all (am_okRowb "TraceAlignerLaw" code am_big) = true := by decide +kernel
set_option maxRecDepth 100000 in
def r_LW_law_5 : List am_Row := [(447, .aload_n 0, 448, 0, .null), (448, .iload 5, 450, 0, .null), (450, .iconst 2, 451, 0, .int (nI 2)), (451, .iadd, 452, 0, .null), (452, .iaload, 453, 0, .null), (453, .aload_n 0, 454, 0, .null), (454, .iload 5, 456, 0, .null), (456, .iconst 3, 457, 0, .int (nI 3)), (457, .iadd, 458, 0, .null), (458, .iaload, 459, 0, .null), (459, .ifCond .eq 7, 462, 466, .null), (462, .iconst 1, 463, 0, .int (nI 1)), (463, .goto 4, 466, 467, .null), (466, .iconst 0, 467, 0, .int (nI 0)), (467, .invokevirtual 128, 470, 0, .null), (470, .istore 7, 472, 0, .null), (472, .aload_n 2, 473, 0, .null), (473, .invokevirtual 114, 476, 0, .null), (476, .iload 6, 478, 0, .null), (478, .if_icmp .eq 5, 481, 483, .null), (481, .iconst 0, 482, 0, .int (nI 0)), (482, .ireturn, 483, 0, .null), (483, .iload 6, 485, 0, .null), (485, .ifCond .ne 15, 488, 500, .null), (488, .aload_n 3, 489, 0, .null), (489, .iconst 0, 490, 0, .int (nI 0)), (490, .laload, 491, 0, .null), (491, .iload 7, 493, 0, .null), (493, .i2l, 494, 0, .null), (494, .lcmp, 495, 0, .null), (495, .ifCond .eq 5, 498, 500, .null), (498, .iconst 0, 499, 0, .int (nI 0)), (499, .ireturn, 500, 0, .null), (500, .goto 1393, 503, 1893, .null), (503, .aload_n 1, 504, 0, .null), (504, .aload_n 0, 505, 0, .null), (505, .iload 5, 507, 0, .null), (507, .iconst 1, 508, 0, .int (nI 1)), (508, .iadd, 509, 0, .null), (509, .iaload, 510, 0, .null)]
set_option maxRecDepth 100000 in
theorem ok_LW_law_5 : r_LW_law_5.all (am_okRowb "TraceAlignerLaw" code am_big) = true := by decide +kernel
set_option maxRecDepth 100000 in
def r_LW_law_6 : List am_Row := [(510, .aload_n 3, 511, 0, .null), (511, .invokestatic 129, 514, 0, .null), (514, .istore 6, 516, 0, .null), (516, .aload_n 2, 517, 0, .null), (517, .aload_n 0, 518, 0, .null), (518, .iload 5, 520, 0, .null), (520, .iconst 1, 521, 0, .int (nI 1)), (521, .iadd, 522, 0, .null), (522, .iaload, 523, 0, .null), (523, .invokevirtual 131, 526, 0, .null), (526, .istore 7, 528, 0, .null), (528, .aload_n 2, 529, 0, .null), (529, .invokevirtual 114, 532, 0, .null), (532, .iload 6, 534, 0, .null), (534, .if_icmp .eq 5, 537, 539, .null), (537, .iconst 0, 538, 0, .int (nI 0)), (538, .ireturn, 539, 0, .null), (539, .iload 6, 541, 0, .null), (541, .ifCond .ne 15, 544, 556, .null), (544, .aload_n 3, 545, 0, .null), (545, .iconst 0, 546, 0, .int (nI 0)), (546, .laload, 547, 0, .null), (547, .iload 7, 549, 0, .null), (549, .i2l, 550, 0, .null), (550, .lcmp, 551, 0, .null), (551, .ifCond .eq 5, 554, 556, .null), (554, .iconst 0, 555, 0, .int (nI 0)), (555, .ireturn, 556, 0, .null), (556, .goto 1337, 559, 1893, .null), (559, .aload_n 1, 560, 0, .null), (560, .aload_n 0, 561, 0, .null), (561, .iload 5, 563, 0, .null), (563, .iconst 1, 564, 0, .int (nI 1)), (564, .iadd, 565, 0, .null), (565, .iaload, 566, 0, .null), (566, .aload_n 3, 567, 0, .null), (567, .invokestatic 132, 570, 0, .null), (570, .istore 6, 572, 0, .null), (572, .aload_n 2, 573, 0, .null), (573, .aload_n 0, 574, 0, .null)]
set_option maxRecDepth 100000 in
theorem ok_LW_law_6 : r_LW_law_6.all (am_okRowb "TraceAlignerLaw" code am_big) = true := by decide +kernel
set_option maxRecDepth 100000 in
def r_LW_law_7 : List am_Row := [(574, .iload 5, 576, 0, .null), (576, .iconst 1, 577, 0, .int (nI 1)), (577, .iadd, 578, 0, .null), (578, .iaload, 579, 0, .null), (579, .invokevirtual 134, 582, 0, .null), (582, .istore 7, 584, 0, .null), (584, .aload_n 2, 585, 0, .null), (585, .invokevirtual 114, 588, 0, .null), (588, .iload 6, 590, 0, .null), (590, .if_icmp .eq 5, 593, 595, .null), (593, .iconst 0, 594, 0, .int (nI 0)), (594, .ireturn, 595, 0, .null), (595, .iload 6, 597, 0, .null), (597, .ifCond .ne 15, 600, 612, .null), (600, .aload_n 3, 601, 0, .null), (601, .iconst 0, 602, 0, .int (nI 0)), (602, .laload, 603, 0, .null), (603, .iload 7, 605, 0, .null), (605, .i2l, 606, 0, .null), (606, .lcmp, 607, 0, .null), (607, .ifCond .eq 5, 610, 612, .null), (610, .iconst 0, 611, 0, .int (nI 0)), (611, .ireturn, 612, 0, .null), (612, .goto 1281, 615, 1893, .null), (615, .aload_n 1, 616, 0, .null), (616, .invokevirtual 135, 619, 0, .null), (619, .aload_n 2, 620, 0, .null), (620, .invokevirtual 138, 623, 0, .null), (623, .if_icmp .eq 1270, 626, 1893, .null), (626, .iconst 0, 627, 0, .int (nI 0)), (627, .ireturn, 628, 0, .null), (628, .aload_n 1, 629, 0, .null), (629, .aload_n 0, 630, 0, .null), (630, .iload 5, 632, 0, .null), (632, .iconst 1, 633, 0, .int (nI 1)), (633, .iadd, 634, 0, .null), (634, .iaload, 635, 0, .null), (635, .aload_n 0, 636, 0, .null), (636, .iload 5, 638, 0, .null), (638, .iconst 2, 639, 0, .int (nI 2))]
set_option maxRecDepth 100000 in
theorem ok_LW_law_7 : r_LW_law_7.all (am_okRowb "TraceAlignerLaw" code am_big) = true := by decide +kernel
set_option maxRecDepth 100000 in
def r_LW_law_8 : List am_Row := [(639, .iadd, 640, 0, .null), (640, .iaload, 641, 0, .null), (641, .aload_n 3, 642, 0, .null), (642, .invokestatic 139, 645, 0, .null), (645, .istore 6, 647, 0, .null), (647, .aload_n 2, 648, 0, .null), (648, .aload_n 0, 649, 0, .null), (649, .iload 5, 651, 0, .null), (651, .iconst 1, 652, 0, .int (nI 1)), (652, .iadd, 653, 0, .null), (653, .iaload, 654, 0, .null), (654, .aload_n 0, 655, 0, .null), (655, .iload 5, 657, 0, .null), (657, .iconst 2, 658, 0, .int (nI 2)), (658, .iadd, 659, 0, .null), (659, .iaload, 660, 0, .null), (660, .invokevirtual 142, 663, 0, .null), (663, .istore 7, 665, 0, .null), (665, .aload_n 2, 666, 0, .null), (666, .invokevirtual 114, 669, 0, .null), (669, .iload 6, 671, 0, .null), (671, .if_icmp .eq 5, 674, 676, .null), (674, .iconst 0, 675, 0, .int (nI 0)), (675, .ireturn, 676, 0, .null), (676, .iload 6, 678, 0, .null), (678, .ifCond .ne 15, 681, 693, .null), (681, .aload_n 3, 682, 0, .null), (682, .iconst 0, 683, 0, .int (nI 0)), (683, .laload, 684, 0, .null), (684, .iload 7, 686, 0, .null), (686, .i2l, 687, 0, .null), (687, .lcmp, 688, 0, .null), (688, .ifCond .eq 5, 691, 693, .null), (691, .iconst 0, 692, 0, .int (nI 0)), (692, .ireturn, 693, 0, .null), (693, .goto 1200, 696, 1893, .null), (696, .aload_n 1, 697, 0, .null), (697, .aload_n 0, 698, 0, .null), (698, .iload 5, 700, 0, .null), (700, .iconst 1, 701, 0, .int (nI 1))]
set_option maxRecDepth 100000 in
theorem ok_LW_law_8 : r_LW_law_8.all (am_okRowb "TraceAlignerLaw" code am_big) = true := by decide +kernel
set_option maxRecDepth 100000 in
def r_LW_law_9 : List am_Row := [(701, .iadd, 702, 0, .null), (702, .iaload, 703, 0, .null), (703, .aload_n 3, 704, 0, .null), (704, .invokestatic 143, 707, 0, .null), (707, .istore 6, 709, 0, .null), (709, .aload_n 2, 710, 0, .null), (710, .aload_n 0, 711, 0, .null), (711, .iload 5, 713, 0, .null), (713, .iconst 1, 714, 0, .int (nI 1)), (714, .iadd, 715, 0, .null), (715, .iaload, 716, 0, .null), (716, .invokevirtual 145, 719, 0, .null), (719, .istore 7, 721, 0, .null), (721, .aload_n 2, 722, 0, .null), (722, .invokevirtual 114, 725, 0, .null), (725, .iload 6, 727, 0, .null), (727, .if_icmp .eq 5, 730, 732, .null), (730, .iconst 0, 731, 0, .int (nI 0)), (731, .ireturn, 732, 0, .null), (732, .iload 6, 734, 0, .null), (734, .ifCond .ne 15, 737, 749, .null), (737, .aload_n 3, 738, 0, .null), (738, .iconst 0, 739, 0, .int (nI 0)), (739, .laload, 740, 0, .null), (740, .iload 7, 742, 0, .null), (742, .i2l, 743, 0, .null), (743, .lcmp, 744, 0, .null), (744, .ifCond .eq 5, 747, 749, .null), (747, .iconst 0, 748, 0, .int (nI 0)), (748, .ireturn, 749, 0, .null), (749, .goto 1144, 752, 1893, .null), (752, .aload_n 1, 753, 0, .null), (753, .aload_n 0, 754, 0, .null), (754, .iload 5, 756, 0, .null), (756, .iconst 1, 757, 0, .int (nI 1)), (757, .iadd, 758, 0, .null), (758, .iaload, 759, 0, .null), (759, .aload_n 0, 760, 0, .null), (760, .iload 5, 762, 0, .null), (762, .iconst 2, 763, 0, .int (nI 2))]
set_option maxRecDepth 100000 in
theorem ok_LW_law_9 : r_LW_law_9.all (am_okRowb "TraceAlignerLaw" code am_big) = true := by decide +kernel
set_option maxRecDepth 100000 in
def r_LW_law_10 : List am_Row := [(763, .iadd, 764, 0, .null), (764, .iaload, 765, 0, .null), (765, .aload_n 3, 766, 0, .null), (766, .invokestatic 146, 769, 0, .null), (769, .istore 6, 771, 0, .null), (771, .aload_n 2, 772, 0, .null), (772, .aload_n 0, 773, 0, .null), (773, .iload 5, 775, 0, .null), (775, .iconst 1, 776, 0, .int (nI 1)), (776, .iadd, 777, 0, .null), (777, .iaload, 778, 0, .null), (778, .aload_n 0, 779, 0, .null), (779, .iload 5, 781, 0, .null), (781, .iconst 2, 782, 0, .int (nI 2)), (782, .iadd, 783, 0, .null), (783, .iaload, 784, 0, .null), (784, .invokevirtual 148, 787, 0, .null), (787, .istore 7, 789, 0, .null), (789, .aload_n 2, 790, 0, .null), (790, .invokevirtual 114, 793, 0, .null), (793, .iload 6, 795, 0, .null), (795, .if_icmp .eq 5, 798, 800, .null), (798, .iconst 0, 799, 0, .int (nI 0)), (799, .ireturn, 800, 0, .null), (800, .iload 6, 802, 0, .null), (802, .ifCond .ne 15, 805, 817, .null), (805, .aload_n 3, 806, 0, .null), (806, .iconst 0, 807, 0, .int (nI 0)), (807, .laload, 808, 0, .null), (808, .iload 7, 810, 0, .null), (810, .i2l, 811, 0, .null), (811, .lcmp, 812, 0, .null), (812, .ifCond .eq 5, 815, 817, .null), (815, .iconst 0, 816, 0, .int (nI 0)), (816, .ireturn, 817, 0, .null), (817, .goto 1076, 820, 1893, .null), (820, .aload_n 1, 821, 0, .null), (821, .aload_n 3, 822, 0, .null), (822, .invokestatic 149, 825, 0, .null), (825, .istore 6, 827, 0, .null)]
set_option maxRecDepth 100000 in
theorem ok_LW_law_10 : r_LW_law_10.all (am_okRowb "TraceAlignerLaw" code am_big) = true := by decide +kernel
set_option maxRecDepth 100000 in
def r_LW_law_11 : List am_Row := [(827, .aload_n 2, 828, 0, .null), (828, .invokevirtual 151, 831, 0, .null), (831, .istore 7, 833, 0, .null), (833, .aload_n 2, 834, 0, .null), (834, .invokevirtual 114, 837, 0, .null), (837, .iload 6, 839, 0, .null), (839, .if_icmp .eq 5, 842, 844, .null), (842, .iconst 0, 843, 0, .int (nI 0)), (843, .ireturn, 844, 0, .null), (844, .iload 6, 846, 0, .null), (846, .ifCond .ne 15, 849, 861, .null), (849, .aload_n 3, 850, 0, .null), (850, .iconst 0, 851, 0, .int (nI 0)), (851, .laload, 852, 0, .null), (852, .iload 7, 854, 0, .null), (854, .i2l, 855, 0, .null), (855, .lcmp, 856, 0, .null), (856, .ifCond .eq 5, 859, 861, .null), (859, .iconst 0, 860, 0, .int (nI 0)), (860, .ireturn, 861, 0, .null), (861, .goto 1032, 864, 1893, .null), (864, .aload_n 1, 865, 0, .null), (865, .aload_n 3, 866, 0, .null), (866, .invokestatic 152, 869, 0, .null), (869, .istore 6, 871, 0, .null), (871, .aload_n 2, 872, 0, .null), (872, .invokevirtual 154, 875, 0, .null), (875, .istore 7, 877, 0, .null), (877, .aload_n 2, 878, 0, .null), (878, .invokevirtual 114, 881, 0, .null), (881, .iload 6, 883, 0, .null), (883, .if_icmp .eq 5, 886, 888, .null), (886, .iconst 0, 887, 0, .int (nI 0)), (887, .ireturn, 888, 0, .null), (888, .iload 6, 890, 0, .null), (890, .ifCond .ne 15, 893, 905, .null), (893, .aload_n 3, 894, 0, .null), (894, .iconst 0, 895, 0, .int (nI 0)), (895, .laload, 896, 0, .null), (896, .iload 7, 898, 0, .null)]
set_option maxRecDepth 100000 in
theorem ok_LW_law_11 : r_LW_law_11.all (am_okRowb "TraceAlignerLaw" code am_big) = true := by decide +kernel
set_option maxRecDepth 100000 in
def r_LW_law_12 : List am_Row := [(898, .i2l, 899, 0, .null), (899, .lcmp, 900, 0, .null), (900, .ifCond .eq 5, 903, 905, .null), (903, .iconst 0, 904, 0, .int (nI 0)), (904, .ireturn, 905, 0, .null), (905, .goto 988, 908, 1893, .null), (908, .aload_n 1, 909, 0, .null), (909, .aload_n 3, 910, 0, .null), (910, .invokestatic 155, 913, 0, .null), (913, .istore 6, 915, 0, .null), (915, .aload_n 2, 916, 0, .null), (916, .invokevirtual 157, 919, 0, .null), (919, .istore 7, 921, 0, .null), (921, .aload_n 2, 922, 0, .null), (922, .invokevirtual 114, 925, 0, .null), (925, .iload 6, 927, 0, .null), (927, .if_icmp .eq 5, 930, 932, .null), (930, .iconst 0, 931, 0, .int (nI 0)), (931, .ireturn, 932, 0, .null), (932, .iload 6, 934, 0, .null), (934, .ifCond .ne 15, 937, 949, .null), (937, .aload_n 3, 938, 0, .null), (938, .iconst 0, 939, 0, .int (nI 0)), (939, .laload, 940, 0, .null), (940, .iload 7, 942, 0, .null), (942, .i2l, 943, 0, .null), (943, .lcmp, 944, 0, .null), (944, .ifCond .eq 5, 947, 949, .null), (947, .iconst 0, 948, 0, .int (nI 0)), (948, .ireturn, 949, 0, .null), (949, .goto 944, 952, 1893, .null), (952, .aload_n 1, 953, 0, .null), (953, .aload_n 0, 954, 0, .null), (954, .iload 5, 956, 0, .null), (956, .iconst 1, 957, 0, .int (nI 1)), (957, .iadd, 958, 0, .null), (958, .iaload, 959, 0, .null), (959, .aload_n 3, 960, 0, .null), (960, .invokestatic 158, 963, 0, .null), (963, .istore 6, 965, 0, .null)]
set_option maxRecDepth 100000 in
theorem ok_LW_law_12 : r_LW_law_12.all (am_okRowb "TraceAlignerLaw" code am_big) = true := by decide +kernel
set_option maxRecDepth 100000 in
def r_LW_law_13 : List am_Row := [(965, .aload_n 2, 966, 0, .null), (966, .aload_n 0, 967, 0, .null), (967, .iload 5, 969, 0, .null), (969, .iconst 1, 970, 0, .int (nI 1)), (970, .iadd, 971, 0, .null), (971, .iaload, 972, 0, .null), (972, .invokevirtual 160, 975, 0, .null), (975, .istore 7, 977, 0, .null), (977, .aload_n 2, 978, 0, .null), (978, .invokevirtual 114, 981, 0, .null), (981, .iload 6, 983, 0, .null), (983, .if_icmp .eq 5, 986, 988, .null), (986, .iconst 0, 987, 0, .int (nI 0)), (987, .ireturn, 988, 0, .null), (988, .iload 6, 990, 0, .null), (990, .ifCond .ne 15, 993, 1005, .null), (993, .aload_n 3, 994, 0, .null), (994, .iconst 0, 995, 0, .int (nI 0)), (995, .laload, 996, 0, .null), (996, .iload 7, 998, 0, .null), (998, .i2l, 999, 0, .null), (999, .lcmp, 1000, 0, .null), (1000, .ifCond .eq 5, 1003, 1005, .null), (1003, .iconst 0, 1004, 0, .int (nI 0)), (1004, .ireturn, 1005, 0, .null), (1005, .goto 888, 1008, 1893, .null), (1008, .aload_n 1, 1009, 0, .null), (1009, .aload_n 0, 1010, 0, .null), (1010, .iload 5, 1012, 0, .null), (1012, .iconst 1, 1013, 0, .int (nI 1)), (1013, .iadd, 1014, 0, .null), (1014, .iaload, 1015, 0, .null), (1015, .aload_n 3, 1016, 0, .null), (1016, .invokestatic 161, 1019, 0, .null), (1019, .istore 6, 1021, 0, .null), (1021, .aload_n 2, 1022, 0, .null), (1022, .aload_n 0, 1023, 0, .null), (1023, .iload 5, 1025, 0, .null), (1025, .iconst 1, 1026, 0, .int (nI 1)), (1026, .iadd, 1027, 0, .null)]
set_option maxRecDepth 100000 in
theorem ok_LW_law_13 : r_LW_law_13.all (am_okRowb "TraceAlignerLaw" code am_big) = true := by decide +kernel
set_option maxRecDepth 100000 in
def r_LW_law_14 : List am_Row := [(1027, .iaload, 1028, 0, .null), (1028, .invokevirtual 163, 1031, 0, .null), (1031, .istore 7, 1033, 0, .null), (1033, .aload_n 2, 1034, 0, .null), (1034, .invokevirtual 114, 1037, 0, .null), (1037, .iload 6, 1039, 0, .null), (1039, .if_icmp .eq 5, 1042, 1044, .null), (1042, .iconst 0, 1043, 0, .int (nI 0)), (1043, .ireturn, 1044, 0, .null), (1044, .iload 6, 1046, 0, .null), (1046, .ifCond .ne 15, 1049, 1061, .null), (1049, .aload_n 3, 1050, 0, .null), (1050, .iconst 0, 1051, 0, .int (nI 0)), (1051, .laload, 1052, 0, .null), (1052, .iload 7, 1054, 0, .null), (1054, .i2l, 1055, 0, .null), (1055, .lcmp, 1056, 0, .null), (1056, .ifCond .eq 5, 1059, 1061, .null), (1059, .iconst 0, 1060, 0, .int (nI 0)), (1060, .ireturn, 1061, 0, .null), (1061, .goto 832, 1064, 1893, .null), (1064, .aload_n 1, 1065, 0, .null), (1065, .aload_n 0, 1066, 0, .null), (1066, .iload 5, 1068, 0, .null), (1068, .iconst 1, 1069, 0, .int (nI 1)), (1069, .iadd, 1070, 0, .null), (1070, .iaload, 1071, 0, .null), (1071, .aload_n 3, 1072, 0, .null), (1072, .invokestatic 164, 1075, 0, .null), (1075, .istore 6, 1077, 0, .null), (1077, .aload_n 2, 1078, 0, .null), (1078, .aload_n 0, 1079, 0, .null), (1079, .iload 5, 1081, 0, .null), (1081, .iconst 1, 1082, 0, .int (nI 1)), (1082, .iadd, 1083, 0, .null), (1083, .iaload, 1084, 0, .null), (1084, .invokevirtual 166, 1087, 0, .null), (1087, .istore 7, 1089, 0, .null), (1089, .aload_n 2, 1090, 0, .null), (1090, .invokevirtual 114, 1093, 0, .null)]
set_option maxRecDepth 100000 in
theorem ok_LW_law_14 : r_LW_law_14.all (am_okRowb "TraceAlignerLaw" code am_big) = true := by decide +kernel
set_option maxRecDepth 100000 in
def r_LW_law_15 : List am_Row := [(1093, .iload 6, 1095, 0, .null), (1095, .if_icmp .eq 5, 1098, 1100, .null), (1098, .iconst 0, 1099, 0, .int (nI 0)), (1099, .ireturn, 1100, 0, .null), (1100, .iload 6, 1102, 0, .null), (1102, .ifCond .ne 15, 1105, 1117, .null), (1105, .aload_n 3, 1106, 0, .null), (1106, .iconst 0, 1107, 0, .int (nI 0)), (1107, .laload, 1108, 0, .null), (1108, .iload 7, 1110, 0, .null), (1110, .i2l, 1111, 0, .null), (1111, .lcmp, 1112, 0, .null), (1112, .ifCond .eq 5, 1115, 1117, .null), (1115, .iconst 0, 1116, 0, .int (nI 0)), (1116, .ireturn, 1117, 0, .null), (1117, .goto 776, 1120, 1893, .null), (1120, .aload_n 1, 1121, 0, .null), (1121, .aload_n 3, 1122, 0, .null), (1122, .invokestatic 167, 1125, 0, .null), (1125, .istore 6, 1127, 0, .null), (1127, .aload_n 2, 1128, 0, .null), (1128, .invokevirtual 169, 1131, 0, .null), (1131, .istore 7, 1133, 0, .null), (1133, .aload_n 2, 1134, 0, .null), (1134, .invokevirtual 114, 1137, 0, .null), (1137, .iload 6, 1139, 0, .null), (1139, .if_icmp .eq 5, 1142, 1144, .null), (1142, .iconst 0, 1143, 0, .int (nI 0)), (1143, .ireturn, 1144, 0, .null), (1144, .iload 6, 1146, 0, .null), (1146, .ifCond .ne 15, 1149, 1161, .null), (1149, .aload_n 3, 1150, 0, .null), (1150, .iconst 0, 1151, 0, .int (nI 0)), (1151, .laload, 1152, 0, .null), (1152, .iload 7, 1154, 0, .null), (1154, .i2l, 1155, 0, .null), (1155, .lcmp, 1156, 0, .null), (1156, .ifCond .eq 5, 1159, 1161, .null), (1159, .iconst 0, 1160, 0, .int (nI 0)), (1160, .ireturn, 1161, 0, .null)]
set_option maxRecDepth 100000 in
theorem ok_LW_law_15 : r_LW_law_15.all (am_okRowb "TraceAlignerLaw" code am_big) = true := by decide +kernel
set_option maxRecDepth 100000 in
def r_LW_law_16 : List am_Row := [(1161, .goto 732, 1164, 1893, .null), (1164, .aload_n 1, 1165, 0, .null), (1165, .aload_n 0, 1166, 0, .null), (1166, .iload 5, 1168, 0, .null), (1168, .iconst 1, 1169, 0, .int (nI 1)), (1169, .iadd, 1170, 0, .null), (1170, .iaload, 1171, 0, .null), (1171, .aload_n 3, 1172, 0, .null), (1172, .invokestatic 170, 1175, 0, .null), (1175, .istore 6, 1177, 0, .null), (1177, .aload_n 2, 1178, 0, .null), (1178, .aload_n 0, 1179, 0, .null), (1179, .iload 5, 1181, 0, .null), (1181, .iconst 1, 1182, 0, .int (nI 1)), (1182, .iadd, 1183, 0, .null), (1183, .iaload, 1184, 0, .null), (1184, .invokevirtual 172, 1187, 0, .null), (1187, .istore 7, 1189, 0, .null), (1189, .aload_n 2, 1190, 0, .null), (1190, .invokevirtual 114, 1193, 0, .null), (1193, .iload 6, 1195, 0, .null), (1195, .if_icmp .eq 5, 1198, 1200, .null), (1198, .iconst 0, 1199, 0, .int (nI 0)), (1199, .ireturn, 1200, 0, .null), (1200, .iload 6, 1202, 0, .null), (1202, .ifCond .ne 15, 1205, 1217, .null), (1205, .aload_n 3, 1206, 0, .null), (1206, .iconst 0, 1207, 0, .int (nI 0)), (1207, .laload, 1208, 0, .null), (1208, .iload 7, 1210, 0, .null), (1210, .i2l, 1211, 0, .null), (1211, .lcmp, 1212, 0, .null), (1212, .ifCond .eq 5, 1215, 1217, .null), (1215, .iconst 0, 1216, 0, .int (nI 0)), (1216, .ireturn, 1217, 0, .null), (1217, .goto 676, 1220, 1893, .null), (1220, .aload_n 1, 1221, 0, .null), (1221, .aload_n 0, 1222, 0, .null), (1222, .iload 5, 1224, 0, .null), (1224, .iconst 1, 1225, 0, .int (nI 1))]
set_option maxRecDepth 100000 in
theorem ok_LW_law_16 : r_LW_law_16.all (am_okRowb "TraceAlignerLaw" code am_big) = true := by decide +kernel
set_option maxRecDepth 100000 in
def r_LW_law_17 : List am_Row := [(1225, .iadd, 1226, 0, .null), (1226, .iaload, 1227, 0, .null), (1227, .aload_n 0, 1228, 0, .null), (1228, .iload 5, 1230, 0, .null), (1230, .iconst 2, 1231, 0, .int (nI 2)), (1231, .iadd, 1232, 0, .null), (1232, .iaload, 1233, 0, .null), (1233, .aload_n 3, 1234, 0, .null), (1234, .invokestatic 173, 1237, 0, .null), (1237, .istore 6, 1239, 0, .null), (1239, .aload_n 2, 1240, 0, .null), (1240, .aload_n 0, 1241, 0, .null), (1241, .iload 5, 1243, 0, .null), (1243, .iconst 1, 1244, 0, .int (nI 1)), (1244, .iadd, 1245, 0, .null), (1245, .iaload, 1246, 0, .null), (1246, .aload_n 0, 1247, 0, .null), (1247, .iload 5, 1249, 0, .null), (1249, .iconst 2, 1250, 0, .int (nI 2)), (1250, .iadd, 1251, 0, .null), (1251, .iaload, 1252, 0, .null), (1252, .invokevirtual 175, 1255, 0, .null), (1255, .istore 7, 1257, 0, .null), (1257, .aload_n 2, 1258, 0, .null), (1258, .invokevirtual 114, 1261, 0, .null), (1261, .iload 6, 1263, 0, .null), (1263, .if_icmp .eq 5, 1266, 1268, .null), (1266, .iconst 0, 1267, 0, .int (nI 0)), (1267, .ireturn, 1268, 0, .null), (1268, .iload 6, 1270, 0, .null), (1270, .ifCond .ne 15, 1273, 1285, .null), (1273, .aload_n 3, 1274, 0, .null), (1274, .iconst 0, 1275, 0, .int (nI 0)), (1275, .laload, 1276, 0, .null), (1276, .iload 7, 1278, 0, .null), (1278, .i2l, 1279, 0, .null), (1279, .lcmp, 1280, 0, .null), (1280, .ifCond .eq 5, 1283, 1285, .null), (1283, .iconst 0, 1284, 0, .int (nI 0)), (1284, .ireturn, 1285, 0, .null)]
set_option maxRecDepth 100000 in
theorem ok_LW_law_17 : r_LW_law_17.all (am_okRowb "TraceAlignerLaw" code am_big) = true := by decide +kernel
set_option maxRecDepth 100000 in
def r_LW_law_18 : List am_Row := [(1285, .goto 608, 1288, 1893, .null), (1288, .aload_n 1, 1289, 0, .null), (1289, .aload_n 0, 1290, 0, .null), (1290, .iload 5, 1292, 0, .null), (1292, .iconst 1, 1293, 0, .int (nI 1)), (1293, .iadd, 1294, 0, .null), (1294, .iaload, 1295, 0, .null), (1295, .aload_n 0, 1296, 0, .null), (1296, .iload 5, 1298, 0, .null), (1298, .iconst 2, 1299, 0, .int (nI 2)), (1299, .iadd, 1300, 0, .null), (1300, .iaload, 1301, 0, .null), (1301, .aload_n 3, 1302, 0, .null), (1302, .invokestatic 176, 1305, 0, .null), (1305, .istore 6, 1307, 0, .null), (1307, .aload_n 2, 1308, 0, .null), (1308, .aload_n 0, 1309, 0, .null), (1309, .iload 5, 1311, 0, .null), (1311, .iconst 1, 1312, 0, .int (nI 1)), (1312, .iadd, 1313, 0, .null), (1313, .iaload, 1314, 0, .null), (1314, .aload_n 0, 1315, 0, .null), (1315, .iload 5, 1317, 0, .null), (1317, .iconst 2, 1318, 0, .int (nI 2)), (1318, .iadd, 1319, 0, .null), (1319, .iaload, 1320, 0, .null), (1320, .invokevirtual 178, 1323, 0, .null), (1323, .istore 7, 1325, 0, .null), (1325, .aload_n 2, 1326, 0, .null), (1326, .invokevirtual 114, 1329, 0, .null), (1329, .iload 6, 1331, 0, .null), (1331, .if_icmp .eq 5, 1334, 1336, .null), (1334, .iconst 0, 1335, 0, .int (nI 0)), (1335, .ireturn, 1336, 0, .null), (1336, .iload 6, 1338, 0, .null), (1338, .ifCond .ne 15, 1341, 1353, .null), (1341, .aload_n 3, 1342, 0, .null), (1342, .iconst 0, 1343, 0, .int (nI 0)), (1343, .laload, 1344, 0, .null), (1344, .iload 7, 1346, 0, .null)]
set_option maxRecDepth 100000 in
theorem ok_LW_law_18 : r_LW_law_18.all (am_okRowb "TraceAlignerLaw" code am_big) = true := by decide +kernel
set_option maxRecDepth 100000 in
def r_LW_law_19 : List am_Row := [(1346, .i2l, 1347, 0, .null), (1347, .lcmp, 1348, 0, .null), (1348, .ifCond .eq 5, 1351, 1353, .null), (1351, .iconst 0, 1352, 0, .int (nI 0)), (1352, .ireturn, 1353, 0, .null), (1353, .goto 540, 1356, 1893, .null), (1356, .aload_n 1, 1357, 0, .null), (1357, .aload_n 0, 1358, 0, .null), (1358, .iload 5, 1360, 0, .null), (1360, .iconst 1, 1361, 0, .int (nI 1)), (1361, .iadd, 1362, 0, .null), (1362, .iaload, 1363, 0, .null), (1363, .aload_n 3, 1364, 0, .null), (1364, .invokestatic 179, 1367, 0, .null), (1367, .istore 6, 1369, 0, .null), (1369, .aload_n 2, 1370, 0, .null), (1370, .aload_n 0, 1371, 0, .null), (1371, .iload 5, 1373, 0, .null), (1373, .iconst 1, 1374, 0, .int (nI 1)), (1374, .iadd, 1375, 0, .null), (1375, .iaload, 1376, 0, .null), (1376, .invokevirtual 181, 1379, 0, .null), (1379, .istore 7, 1381, 0, .null), (1381, .aload_n 2, 1382, 0, .null), (1382, .invokevirtual 114, 1385, 0, .null), (1385, .iload 6, 1387, 0, .null), (1387, .if_icmp .eq 5, 1390, 1392, .null), (1390, .iconst 0, 1391, 0, .int (nI 0)), (1391, .ireturn, 1392, 0, .null), (1392, .iload 6, 1394, 0, .null), (1394, .ifCond .ne 15, 1397, 1409, .null), (1397, .aload_n 3, 1398, 0, .null), (1398, .iconst 0, 1399, 0, .int (nI 0)), (1399, .laload, 1400, 0, .null), (1400, .iload 7, 1402, 0, .null), (1402, .i2l, 1403, 0, .null), (1403, .lcmp, 1404, 0, .null), (1404, .ifCond .eq 5, 1407, 1409, .null), (1407, .iconst 0, 1408, 0, .int (nI 0)), (1408, .ireturn, 1409, 0, .null)]
set_option maxRecDepth 100000 in
theorem ok_LW_law_19 : r_LW_law_19.all (am_okRowb "TraceAlignerLaw" code am_big) = true := by decide +kernel
set_option maxRecDepth 100000 in
def r_LW_law_20 : List am_Row := [(1409, .goto 484, 1412, 1893, .null), (1412, .aload_n 1, 1413, 0, .null), (1413, .aload_n 0, 1414, 0, .null), (1414, .iload 5, 1416, 0, .null), (1416, .iconst 1, 1417, 0, .int (nI 1)), (1417, .iadd, 1418, 0, .null), (1418, .iaload, 1419, 0, .null), (1419, .aload_n 3, 1420, 0, .null), (1420, .invokestatic 182, 1423, 0, .null), (1423, .istore 6, 1425, 0, .null), (1425, .aload_n 2, 1426, 0, .null), (1426, .aload_n 0, 1427, 0, .null), (1427, .iload 5, 1429, 0, .null), (1429, .iconst 1, 1430, 0, .int (nI 1)), (1430, .iadd, 1431, 0, .null), (1431, .iaload, 1432, 0, .null), (1432, .invokevirtual 184, 1435, 0, .null), (1435, .istore 7, 1437, 0, .null), (1437, .aload_n 2, 1438, 0, .null), (1438, .invokevirtual 114, 1441, 0, .null), (1441, .iload 6, 1443, 0, .null), (1443, .if_icmp .eq 5, 1446, 1448, .null), (1446, .iconst 0, 1447, 0, .int (nI 0)), (1447, .ireturn, 1448, 0, .null), (1448, .iload 6, 1450, 0, .null), (1450, .ifCond .ne 15, 1453, 1465, .null), (1453, .aload_n 3, 1454, 0, .null), (1454, .iconst 0, 1455, 0, .int (nI 0)), (1455, .laload, 1456, 0, .null), (1456, .iload 7, 1458, 0, .null), (1458, .i2l, 1459, 0, .null), (1459, .lcmp, 1460, 0, .null), (1460, .ifCond .eq 5, 1463, 1465, .null), (1463, .iconst 0, 1464, 0, .int (nI 0)), (1464, .ireturn, 1465, 0, .null), (1465, .goto 428, 1468, 1893, .null), (1468, .aload_n 1, 1469, 0, .null), (1469, .aload_n 0, 1470, 0, .null), (1470, .iload 5, 1472, 0, .null), (1472, .iconst 1, 1473, 0, .int (nI 1))]
set_option maxRecDepth 100000 in
theorem ok_LW_law_20 : r_LW_law_20.all (am_okRowb "TraceAlignerLaw" code am_big) = true := by decide +kernel
set_option maxRecDepth 100000 in
def r_LW_law_21 : List am_Row := [(1473, .iadd, 1474, 0, .null), (1474, .iaload, 1475, 0, .null), (1475, .aload_n 0, 1476, 0, .null), (1476, .iload 5, 1478, 0, .null), (1478, .iconst 2, 1479, 0, .int (nI 2)), (1479, .iadd, 1480, 0, .null), (1480, .iaload, 1481, 0, .null), (1481, .aload_n 0, 1482, 0, .null), (1482, .iload 5, 1484, 0, .null), (1484, .iconst 3, 1485, 0, .int (nI 3)), (1485, .iadd, 1486, 0, .null), (1486, .iaload, 1487, 0, .null), (1487, .aload_n 3, 1488, 0, .null), (1488, .invokestatic 185, 1491, 0, .null), (1491, .istore 6, 1493, 0, .null), (1493, .aload_n 2, 1494, 0, .null), (1494, .aload_n 0, 1495, 0, .null), (1495, .iload 5, 1497, 0, .null), (1497, .iconst 1, 1498, 0, .int (nI 1)), (1498, .iadd, 1499, 0, .null), (1499, .iaload, 1500, 0, .null), (1500, .aload_n 0, 1501, 0, .null), (1501, .iload 5, 1503, 0, .null), (1503, .iconst 2, 1504, 0, .int (nI 2)), (1504, .iadd, 1505, 0, .null), (1505, .iaload, 1506, 0, .null), (1506, .aload_n 0, 1507, 0, .null), (1507, .iload 5, 1509, 0, .null), (1509, .iconst 3, 1510, 0, .int (nI 3)), (1510, .iadd, 1511, 0, .null), (1511, .iaload, 1512, 0, .null), (1512, .invokevirtual 188, 1515, 0, .null), (1515, .istore 7, 1517, 0, .null), (1517, .aload_n 2, 1518, 0, .null), (1518, .invokevirtual 114, 1521, 0, .null), (1521, .iload 6, 1523, 0, .null), (1523, .if_icmp .eq 5, 1526, 1528, .null), (1526, .iconst 0, 1527, 0, .int (nI 0)), (1527, .ireturn, 1528, 0, .null), (1528, .iload 6, 1530, 0, .null)]
set_option maxRecDepth 100000 in
theorem ok_LW_law_21 : r_LW_law_21.all (am_okRowb "TraceAlignerLaw" code am_big) = true := by decide +kernel
set_option maxRecDepth 100000 in
def r_LW_law_22 : List am_Row := [(1530, .ifCond .ne 15, 1533, 1545, .null), (1533, .aload_n 3, 1534, 0, .null), (1534, .iconst 0, 1535, 0, .int (nI 0)), (1535, .laload, 1536, 0, .null), (1536, .iload 7, 1538, 0, .null), (1538, .i2l, 1539, 0, .null), (1539, .lcmp, 1540, 0, .null), (1540, .ifCond .eq 5, 1543, 1545, .null), (1543, .iconst 0, 1544, 0, .int (nI 0)), (1544, .ireturn, 1545, 0, .null), (1545, .goto 348, 1548, 1893, .null), (1548, .aload_n 1, 1549, 0, .null), (1549, .aload_n 0, 1550, 0, .null), (1550, .iload 5, 1552, 0, .null), (1552, .iconst 1, 1553, 0, .int (nI 1)), (1553, .iadd, 1554, 0, .null), (1554, .iaload, 1555, 0, .null), (1555, .aload_n 3, 1556, 0, .null), (1556, .invokestatic 189, 1559, 0, .null), (1559, .istore 6, 1561, 0, .null), (1561, .aload_n 2, 1562, 0, .null), (1562, .aload_n 0, 1563, 0, .null), (1563, .iload 5, 1565, 0, .null), (1565, .iconst 1, 1566, 0, .int (nI 1)), (1566, .iadd, 1567, 0, .null), (1567, .iaload, 1568, 0, .null), (1568, .invokevirtual 191, 1571, 0, .null), (1571, .istore 7, 1573, 0, .null), (1573, .aload_n 2, 1574, 0, .null), (1574, .invokevirtual 114, 1577, 0, .null), (1577, .iload 6, 1579, 0, .null), (1579, .if_icmp .eq 5, 1582, 1584, .null), (1582, .iconst 0, 1583, 0, .int (nI 0)), (1583, .ireturn, 1584, 0, .null), (1584, .iload 6, 1586, 0, .null), (1586, .ifCond .ne 15, 1589, 1601, .null), (1589, .aload_n 3, 1590, 0, .null), (1590, .iconst 0, 1591, 0, .int (nI 0)), (1591, .laload, 1592, 0, .null), (1592, .iload 7, 1594, 0, .null)]
set_option maxRecDepth 100000 in
theorem ok_LW_law_22 : r_LW_law_22.all (am_okRowb "TraceAlignerLaw" code am_big) = true := by decide +kernel
set_option maxRecDepth 100000 in
def r_LW_law_23 : List am_Row := [(1594, .i2l, 1595, 0, .null), (1595, .lcmp, 1596, 0, .null), (1596, .ifCond .eq 5, 1599, 1601, .null), (1599, .iconst 0, 1600, 0, .int (nI 0)), (1600, .ireturn, 1601, 0, .null), (1601, .goto 292, 1604, 1893, .null), (1604, .aload_n 1, 1605, 0, .null), (1605, .aload_n 0, 1606, 0, .null), (1606, .iload 5, 1608, 0, .null), (1608, .iconst 1, 1609, 0, .int (nI 1)), (1609, .iadd, 1610, 0, .null), (1610, .iaload, 1611, 0, .null), (1611, .aload 4, 1613, 0, .null), (1613, .invokestatic 192, 1616, 0, .null), (1616, .istore 6, 1618, 0, .null), (1618, .aload_n 2, 1619, 0, .null), (1619, .aload_n 0, 1620, 0, .null), (1620, .iload 5, 1622, 0, .null), (1622, .iconst 1, 1623, 0, .int (nI 1)), (1623, .iadd, 1624, 0, .null), (1624, .iaload, 1625, 0, .null), (1625, .invokevirtual 195, 1628, 0, .null), (1628, .dstore 7, 1630, 0, .null), (1630, .aload_n 2, 1631, 0, .null), (1631, .invokevirtual 114, 1634, 0, .null), (1634, .iload 6, 1636, 0, .null), (1636, .if_icmp .eq 5, 1639, 1641, .null), (1639, .iconst 0, 1640, 0, .int (nI 0)), (1640, .ireturn, 1641, 0, .null), (1641, .iload 6, 1643, 0, .null), (1643, .ifCond .ne 35, 1646, 1678, .null), (1646, .aload 4, 1648, 0, .null), (1648, .iconst 0, 1649, 0, .int (nI 0)), (1649, .daload, 1650, 0, .null), (1650, .dload 7, 1652, 0, .null), (1652, .dcmp .l, 1653, 0, .null), (1653, .ifCond .eq 25, 1656, 1678, .null), (1656, .aload 4, 1658, 0, .null), (1658, .iconst 0, 1659, 0, .int (nI 0)), (1659, .daload, 1660, 0, .null)]
set_option maxRecDepth 100000 in
theorem ok_LW_law_23 : r_LW_law_23.all (am_okRowb "TraceAlignerLaw" code am_big) = true := by decide +kernel
set_option maxRecDepth 100000 in
def r_LW_law_24 : List am_Row := [(1660, .aload 4, 1662, 0, .null), (1662, .iconst 0, 1663, 0, .int (nI 0)), (1663, .daload, 1664, 0, .null), (1664, .dcmp .l, 1665, 0, .null), (1665, .ifCond .eq 11, 1668, 1676, .null), (1668, .dload 7, 1670, 0, .null), (1670, .dload 7, 1672, 0, .null), (1672, .dcmp .l, 1673, 0, .null), (1673, .ifCond .ne 5, 1676, 1678, .null), (1676, .iconst 0, 1677, 0, .int (nI 0)), (1677, .ireturn, 1678, 0, .null), (1678, .goto 215, 1681, 1893, .null), (1681, .aload_n 1, 1682, 0, .null), (1682, .aload_n 0, 1683, 0, .null), (1683, .iload 5, 1685, 0, .null), (1685, .iconst 1, 1686, 0, .int (nI 1)), (1686, .iadd, 1687, 0, .null), (1687, .iaload, 1688, 0, .null), (1688, .aload_n 0, 1689, 0, .null), (1689, .iload 5, 1691, 0, .null), (1691, .iconst 2, 1692, 0, .int (nI 2)), (1692, .iadd, 1693, 0, .null), (1693, .iaload, 1694, 0, .null), (1694, .aload_n 3, 1695, 0, .null), (1695, .invokestatic 196, 1698, 0, .null), (1698, .istore 6, 1700, 0, .null), (1700, .aload_n 2, 1701, 0, .null), (1701, .aload_n 0, 1702, 0, .null), (1702, .iload 5, 1704, 0, .null), (1704, .iconst 1, 1705, 0, .int (nI 1)), (1705, .iadd, 1706, 0, .null), (1706, .iaload, 1707, 0, .null), (1707, .aload_n 0, 1708, 0, .null), (1708, .iload 5, 1710, 0, .null), (1710, .iconst 2, 1711, 0, .int (nI 2)), (1711, .iadd, 1712, 0, .null), (1712, .iaload, 1713, 0, .null), (1713, .invokevirtual 198, 1716, 0, .null), (1716, .istore 7, 1718, 0, .null), (1718, .aload_n 2, 1719, 0, .null)]
set_option maxRecDepth 100000 in
theorem ok_LW_law_24 : r_LW_law_24.all (am_okRowb "TraceAlignerLaw" code am_big) = true := by decide +kernel
set_option maxRecDepth 100000 in
def r_LW_law_25 : List am_Row := [(1719, .invokevirtual 114, 1722, 0, .null), (1722, .iload 6, 1724, 0, .null), (1724, .if_icmp .eq 5, 1727, 1729, .null), (1727, .iconst 0, 1728, 0, .int (nI 0)), (1728, .ireturn, 1729, 0, .null), (1729, .iload 6, 1731, 0, .null), (1731, .ifCond .ne 15, 1734, 1746, .null), (1734, .aload_n 3, 1735, 0, .null), (1735, .iconst 0, 1736, 0, .int (nI 0)), (1736, .laload, 1737, 0, .null), (1737, .iload 7, 1739, 0, .null), (1739, .i2l, 1740, 0, .null), (1740, .lcmp, 1741, 0, .null), (1741, .ifCond .eq 5, 1744, 1746, .null), (1744, .iconst 0, 1745, 0, .int (nI 0)), (1745, .ireturn, 1746, 0, .null), (1746, .goto 147, 1749, 1893, .null), (1749, .aload_n 1, 1750, 0, .null), (1750, .aload 4, 1752, 0, .null), (1752, .invokestatic 199, 1755, 0, .null), (1755, .istore 6, 1757, 0, .null), (1757, .aload_n 2, 1758, 0, .null), (1758, .invokevirtual 202, 1761, 0, .null), (1761, .dstore 7, 1763, 0, .null), (1763, .aload_n 2, 1764, 0, .null), (1764, .invokevirtual 114, 1767, 0, .null), (1767, .iload 6, 1769, 0, .null), (1769, .if_icmp .eq 5, 1772, 1774, .null), (1772, .iconst 0, 1773, 0, .int (nI 0)), (1773, .ireturn, 1774, 0, .null), (1774, .iload 6, 1776, 0, .null), (1776, .ifCond .ne 35, 1779, 1811, .null), (1779, .aload 4, 1781, 0, .null), (1781, .iconst 0, 1782, 0, .int (nI 0)), (1782, .daload, 1783, 0, .null), (1783, .dload 7, 1785, 0, .null), (1785, .dcmp .l, 1786, 0, .null), (1786, .ifCond .eq 25, 1789, 1811, .null), (1789, .aload 4, 1791, 0, .null), (1791, .iconst 0, 1792, 0, .int (nI 0))]
set_option maxRecDepth 100000 in
theorem ok_LW_law_25 : r_LW_law_25.all (am_okRowb "TraceAlignerLaw" code am_big) = true := by decide +kernel
set_option maxRecDepth 100000 in
def r_LW_law_26 : List am_Row := [(1792, .daload, 1793, 0, .null), (1793, .aload 4, 1795, 0, .null), (1795, .iconst 0, 1796, 0, .int (nI 0)), (1796, .daload, 1797, 0, .null), (1797, .dcmp .l, 1798, 0, .null), (1798, .ifCond .eq 11, 1801, 1809, .null), (1801, .dload 7, 1803, 0, .null), (1803, .dload 7, 1805, 0, .null), (1805, .dcmp .l, 1806, 0, .null), (1806, .ifCond .ne 5, 1809, 1811, .null), (1809, .iconst 0, 1810, 0, .int (nI 0)), (1810, .ireturn, 1811, 0, .null), (1811, .goto 82, 1814, 1893, .null), (1814, .aload_n 1, 1815, 0, .null), (1815, .aload 4, 1817, 0, .null), (1817, .invokestatic 203, 1820, 0, .null), (1820, .istore 6, 1822, 0, .null), (1822, .aload_n 2, 1823, 0, .null), (1823, .invokevirtual 205, 1826, 0, .null), (1826, .dstore 7, 1828, 0, .null), (1828, .aload_n 2, 1829, 0, .null), (1829, .invokevirtual 114, 1832, 0, .null), (1832, .iload 6, 1834, 0, .null), (1834, .if_icmp .eq 5, 1837, 1839, .null), (1837, .iconst 0, 1838, 0, .int (nI 0)), (1838, .ireturn, 1839, 0, .null), (1839, .iload 6, 1841, 0, .null), (1841, .ifCond .ne 35, 1844, 1876, .null), (1844, .aload 4, 1846, 0, .null), (1846, .iconst 0, 1847, 0, .int (nI 0)), (1847, .daload, 1848, 0, .null), (1848, .dload 7, 1850, 0, .null), (1850, .dcmp .l, 1851, 0, .null), (1851, .ifCond .eq 25, 1854, 1876, .null), (1854, .aload 4, 1856, 0, .null), (1856, .iconst 0, 1857, 0, .int (nI 0)), (1857, .daload, 1858, 0, .null), (1858, .aload 4, 1860, 0, .null), (1860, .iconst 0, 1861, 0, .int (nI 0)), (1861, .daload, 1862, 0, .null)]
set_option maxRecDepth 100000 in
theorem ok_LW_law_26 : r_LW_law_26.all (am_okRowb "TraceAlignerLaw" code am_big) = true := by decide +kernel
set_option maxRecDepth 100000 in
def r_LW_law_27 : List am_Row := [(1862, .dcmp .l, 1863, 0, .null), (1863, .ifCond .eq 11, 1866, 1874, .null), (1866, .dload 7, 1868, 0, .null), (1868, .dload 7, 1870, 0, .null), (1870, .dcmp .l, 1871, 0, .null), (1871, .ifCond .ne 5, 1874, 1876, .null), (1874, .iconst 0, 1875, 0, .int (nI 0)), (1875, .ireturn, 1876, 0, .null), (1876, .goto 17, 1879, 1893, .null), (1879, .aload_n 1, 1880, 0, .null), (1880, .invokevirtual 206, 1883, 0, .null), (1883, .aload_n 2, 1884, 0, .null), (1884, .invokevirtual 210, 1887, 0, .null), (1887, .lcmp, 1888, 0, .null), (1888, .ifCond .eq 5, 1891, 1893, .null), (1891, .iconst 0, 1892, 0, .int (nI 0)), (1892, .ireturn, 1893, 0, .null), (1893, .iinc 5 5, 1896, 0, .int (nI 5)), (1896, .goto (-1868), 1899, 28, .null), (1899, .iconst 1, 1900, 0, .int (nI 1)), (1900, .ireturn, 1901, 0, .null)]
set_option maxRecDepth 100000 in
theorem ok_LW_law_27 : r_LW_law_27.all (am_okRowb "TraceAlignerLaw" code am_big) = true := by decide +kernel
def r_LW_law : List am_Row := r_LW_law_0 ++ (r_LW_law_1 ++ (r_LW_law_2 ++ (r_LW_law_3 ++ (r_LW_law_4 ++ (r_LW_law_5 ++ (r_LW_law_6 ++ (r_LW_law_7 ++ (r_LW_law_8 ++ (r_LW_law_9 ++ (r_LW_law_10 ++ (r_LW_law_11 ++ (r_LW_law_12 ++ (r_LW_law_13 ++ (r_LW_law_14 ++ (r_LW_law_15 ++ (r_LW_law_16 ++ (r_LW_law_17 ++ (r_LW_law_18 ++ (r_LW_law_19 ++ (r_LW_law_20 ++ (r_LW_law_21 ++ (r_LW_law_22 ++ (r_LW_law_23 ++ (r_LW_law_24 ++ (r_LW_law_25 ++ (r_LW_law_26 ++ (r_LW_law_27)))))))))))))))))))))))))))
def E_LW_law : am_E := (am_G0, (F_LW, N_LW, C_LW), m_LW_law, r_LW_law)
theorem e_LW_law : am_okE E_LW_law := ⟨am_big_good, okT_LW, am_okRow_of (am_all_app ok_LW_law_0 (am_all_app ok_LW_law_1 (am_all_app ok_LW_law_2 (am_all_app ok_LW_law_3 (am_all_app ok_LW_law_4 (am_all_app ok_LW_law_5 (am_all_app ok_LW_law_6 (am_all_app ok_LW_law_7 (am_all_app ok_LW_law_8 (am_all_app ok_LW_law_9 (am_all_app ok_LW_law_10 (am_all_app ok_LW_law_11 (am_all_app ok_LW_law_12 (am_all_app ok_LW_law_13 (am_all_app ok_LW_law_14 (am_all_app ok_LW_law_15 (am_all_app ok_LW_law_16 (am_all_app ok_LW_law_17 (am_all_app ok_LW_law_18 (am_all_app ok_LW_law_19 (am_all_app ok_LW_law_20 (am_all_app ok_LW_law_21 (am_all_app ok_LW_law_22 (am_all_app ok_LW_law_23 (am_all_app ok_LW_law_24 (am_all_app ok_LW_law_25 (am_all_app ok_LW_law_26 ok_LW_law_27)))))))))))))))))))))))))))⟩
end
section
/-! WORDS by name, by program -/
set_option maxRecDepth 100000 in
theorem ow_TA : Jvm.Cond.methodLink "TraceAligner" 1 objectInit ∈ am_big := List.mem_of_getElem? (i := 31) rfl
set_option maxRecDepth 100000 in
theorem ow_NT : Jvm.Cond.methodLink "TraceAligner$Net" 3 objectInit ∈ am_big := List.mem_of_getElem? (i := 38) rfl
set_option maxRecDepth 100000 in
theorem ow_MG : Jvm.Cond.methodLink "TraceAligner$MarkingGraph" 3 objectInit ∈ am_big := List.mem_of_getElem? (i := 76) rfl
set_option maxRecDepth 100000 in
theorem ow_PF : Jvm.Cond.methodLink "TraceAligner$PathFinder" 3 objectInit ∈ am_big := List.mem_of_getElem? (i := 107) rfl
set_option maxRecDepth 100000 in
theorem ow_TR : Jvm.Cond.methodLink "TraceAligner$Trace" 3 objectInit ∈ am_big := List.mem_of_getElem? (i := 124) rfl
set_option maxRecDepth 100000 in
theorem ow_MO : Jvm.Cond.methodLink "TraceAlignerModel" 3 objectInit ∈ am_big := List.mem_of_getElem? (i := 640) rfl
set_option maxRecDepth 100000 in
theorem ow_1 : Jvm.Cond.instanceMethod objectInit ∈ am_big := List.mem_of_getElem? (i := 32) rfl
set_option maxRecDepth 100000 in
theorem ow_2 : Jvm.Cond.code objectInit ⟨#[0xb1]⟩ 1 none ∈ am_big := List.mem_of_getElem? (i := 33) rfl
set_option maxRecDepth 100000 in
theorem lw_LW_8 : Jvm.Cond.classLink "TraceAlignerLaw" 8 "TraceAligner" ∈ am_big := List.mem_of_getElem? (i := 26) rfl
set_option maxRecDepth 100000 in
theorem lw_TA_7 : Jvm.Cond.classLink "TraceAligner" 7 "TraceAligner$Net" ∈ am_big := List.mem_of_getElem? (i := 34) rfl
set_option maxRecDepth 100000 in
theorem aw_int : Jvm.Cond.arrayClass .int ∈ am_big := List.mem_of_getElem? (i := 70) rfl
set_option maxRecDepth 100000 in
theorem lw_TA_16 : Jvm.Cond.classLink "TraceAligner" 16 "TraceAligner$MarkingGraph" ∈ am_big := List.mem_of_getElem? (i := 71) rfl
set_option maxRecDepth 100000 in
theorem lw_TA_35 : Jvm.Cond.classLink "TraceAligner" 35 "TraceAligner$PathFinder" ∈ am_big := List.mem_of_getElem? (i := 102) rfl
set_option maxRecDepth 100000 in
theorem lw_PF_15 : Jvm.Cond.classLink "TraceAligner$PathFinder" 15 "[[I" ∈ am_big := List.mem_of_getElem? (i := 108) rfl
set_option maxRecDepth 100000 in
theorem lw_TA_47 : Jvm.Cond.classLink "TraceAligner" 47 "TraceAligner$Trace" ∈ am_big := List.mem_of_getElem? (i := 120) rfl
set_option maxRecDepth 100000 in
theorem aw_byte : Jvm.Cond.arrayClass .byte ∈ am_big := List.mem_of_getElem? (i := 339) rfl
set_option maxRecDepth 100000 in
theorem lw_LW_105 : Jvm.Cond.classLink "TraceAlignerLaw" 105 "TraceAlignerModel" ∈ am_big := List.mem_of_getElem? (i := 635) rfl
set_option maxRecDepth 100000 in
theorem aw_boolean : Jvm.Cond.arrayClass .boolean ∈ am_big := List.mem_of_getElem? (i := 796) rfl
set_option maxRecDepth 100000 in
theorem aw_long : Jvm.Cond.arrayClass .long ∈ am_big := List.mem_of_getElem? (i := 898) rfl
set_option maxRecDepth 100000 in
theorem aw_double : Jvm.Cond.arrayClass .double ∈ am_big := List.mem_of_getElem? (i := 899) rfl
set_option maxRecDepth 100000 in
theorem cw_nat : Jvm.Cond.native arraycopyName ∈ am_big := List.mem_of_getElem? (i := 935) rfl
set_option maxRecDepth 100000 in
theorem cw_sta : Jvm.Cond.static arraycopyName ∈ am_big := List.mem_of_getElem? (i := 509) rfl
set_option maxRecDepth 100000 in
theorem cw_ini : Jvm.Cond.initialized "java/lang/System" ∈ am_big := List.mem_of_getElem? (i := 23) rfl
set_option maxRecDepth 100000 in
theorem cw_TR_18 : Jvm.Cond.methodLink "TraceAligner$Trace" 18 arraycopyName ∈ am_big := List.mem_of_getElem? (i := 508) rfl
end
section
/-! THROWS with a wide index; the words of the class's throws -/
section THROW
variable {E : am_E} {R : Room} {Z : am_Z} {pc : Nat} {lo lo' : am_L} {st rest : List Value} {h : am_H} {rc rs : Nat} {r : am_Row} {dc ds f : Nat} {Qa : Option Value → am_H → Prop} {Xa : String → am_H → Prop} {hh : List (Nat × Nat × Nat × Nat)}
/-- 'throw new E("text")', a wide index, nothing under it on the stack -/
theorem am_B.thrW {i0 i4 i6 : Nat} {cls text : String} {names : List String} {r0 r3 r4 r6 r9 : am_Row} (h0 : am_find E.2.2.2 pc = some r0) (g0 : r0.2.1 = .new i0) (h3 : am_find E.2.2.2 (pc + 3) = some r3) (g3 : r3.2.1 = .dup) (h4 : am_find E.2.2.2 (pc + 4) = some r4) (g4 : r4.2.1 = .ldc_w i4) (h6 : am_find E.2.2.2 (pc + 7) = some r6) (g6 : r6.2.1 = .invokespecial i6) (h9 : am_find E.2.2.2 (pc + 10) = some r9) (g9 : r9.2.1 = .athrow)
    (hcls : Bundle.fit cls = true) (hnames : ∀ n ∈ names, Bundle.fit n = true) (hw : ∀ w ∈ Cond.classLink E.2.2.1.1.cls i0 cls :: Cond.initialized cls :: vx_atS E.2.2.1.1.cls i6 cls names, w ∈ E.1.2 ∨ w ∈ am_ws9) (hstr : (E.2.2.1.1.cls, i4, text) ∈ am_str) (hf : names.length + 3 < f) (hfl : 13 * (names.length + 1) + 43 ≤ 36 * f)
    (hq : ∀ d, Xa cls (h ++ List.replicate d am_unk)) : am_B E (am_rm f dc ds) (am_ZX E dc ds Qa Xa) pc lo [] h (rc + 1) (rs + 6) := by
  intro ok l D cA sb base p e s m args below meth c C H locs cells slots ls hR hS k1 k2 hl
  obtain ⟨hx, hb, hml, hret, hown, hts, hK, hlk, hnm⟩ := C
  have dec : ∀ {q : Nat} {r : am_Row}, am_find E.2.2.2 q = some r → decode E.2.2.1.2.1 q = .ok (r.2.1, am_len r.2.1) := fun {q r} hf9 => by
    obtain ⟨hm0, rfl⟩ := am_find_ok hf9
    exact (ok.2.2 r hm0).1
  have d0 := dec h0
  have d3 := dec h3
  have d4 := dec h4
  have d6 := dec h6
  have d9 := dec h9
  rw [g0] at d0
  rw [g3] at d3
  rw [g4] at d4
  rw [g6] at d6
  rw [g9] at d9
  by_cases hP : am_P [] l c base s
  · obtain ⟨sa, hsa⟩ := hP.2.2.2.2.1 _ hstr
    have hts9 : ∀ w, w ∈ E.1.2 ∨ w ∈ am_ws9 → w.before args s = true := fun w hw9 => hw9.elim (hts w) (fun z => va_Nw.use (am_ws9_on w z) (hP.2.2.2.2.2.2 w z))
    have hgo9 : ∀ w, w ∈ E.1.2 ∨ w ∈ am_ws9 → vx_ot w = true := fun w hw9 => hw9.elim (fun z => by unfold vx_ot; rw [ok.1 w z, Bool.or_true]) (fun z => by unfold vx_ot; rw [am_ws9_on w z, Bool.true_or])
    have rc9 : cells + (rc + 1) ≤ dc := k1
    have rs9 : slots + (rs + 6) ≤ ds := k2
    intro T hT X
    obtain ⟨t, a1, b1⟩ := vx_throwSW (A := fun q => base ≤ q) (Qc := am_Qc D E.1.1 cA sb base Qa) (XC := am_XC D E.1.1 cA sb base Xa) (mc := dc) (ms := ds) (free := fun q => base ≤ q) (rest := []) hx hb hP.1 hown hcls hnames
      (hts9 _ (hw _ List.mem_cons_self)) (hts9 _ (hw _ (List.mem_cons_of_mem _ List.mem_cons_self))) hsa (fun w hw' => hts9 w (hw _ (List.mem_cons_of_mem _ (List.mem_cons_of_mem _ hw')))) (fun w hw' => hgo9 w (hw w hw'))
      hP.2.2.1 hP.2.2.2.1 hS (hl.2.1.trans hml.symm) d0 d3 d4 d6 d9 (fun x hx9 => by rw [hP.2.1] at hx9; cases hx9) hf (by show 0 + _ ≤ 36 * f; omega) (by show cells + 1 ≤ dc; omega) (by show slots + 6 ≤ ds; omega) hlk
      (fun t hal hz ho => ⟨⟨_, hq (t.heap.size - H.size), (hR.grow hz ho).moved hal⟩, Nat.le_trans hS.1 hz, fun q q1 q2 => (ho q (Nat.lt_of_lt_of_le q1 hS.1)).trans (hS.2.1 q q1 q2)⟩) hS.2.2 (by omega) (by omega) T hT X
    exact ⟨t, a1, fun _ => b1⟩
  · intro T hT X
    exact ⟨_, Steps.refl _, fun z => absurd z hP⟩
end THROW
def x_nm : List String := ["java/lang/RuntimeException", "java/lang/Exception"]
theorem x_fn : ∀ n ∈ x_nm, Bundle.fit n = true := by decide +kernel
theorem x_fA : Bundle.fit "java/lang/IllegalArgumentException" = true := by decide +kernel
set_option maxRecDepth 100000 in
theorem x_wA0 : (Jvm.Cond.classLink "TraceAligner" 79 "java/lang/IllegalArgumentException" :: Jvm.Cond.initialized "java/lang/IllegalArgumentException" :: vx_atS "TraceAligner" 83 "java/lang/IllegalArgumentException" x_nm).all (fun w => decide (w ∈ am_big) || decide (w ∈ am_ws9)) = true := by decide +kernel
theorem x_wA : ∀ w ∈ Jvm.Cond.classLink "TraceAligner" 79 "java/lang/IllegalArgumentException" :: Jvm.Cond.initialized "java/lang/IllegalArgumentException" :: vx_atS "TraceAligner" 83 "java/lang/IllegalArgumentException" x_nm, w ∈ am_big ∨ w ∈ am_ws9 := fun w h => (Bool.or_eq_true_iff.mp (List.all_eq_true.mp x_wA0 w h)).imp of_decide_eq_true of_decide_eq_true
theorem x_fS : Bundle.fit "java/lang/IllegalStateException" = true := by decide +kernel
set_option maxRecDepth 100000 in
theorem x_wS0 : (Jvm.Cond.classLink "TraceAligner" 61 "java/lang/IllegalStateException" :: Jvm.Cond.initialized "java/lang/IllegalStateException" :: vx_atS "TraceAligner" 65 "java/lang/IllegalStateException" x_nm).all (fun w => decide (w ∈ am_big) || decide (w ∈ am_ws9)) = true := by decide +kernel
theorem x_wS : ∀ w ∈ Jvm.Cond.classLink "TraceAligner" 61 "java/lang/IllegalStateException" :: Jvm.Cond.initialized "java/lang/IllegalStateException" :: vx_atS "TraceAligner" 65 "java/lang/IllegalStateException" x_nm, w ∈ am_big ∨ w ∈ am_ws9 := fun w h => (Bool.or_eq_true_iff.mp (List.all_eq_true.mp x_wS0 w h)).imp of_decide_eq_true of_decide_eq_true
theorem x_fO : Bundle.fit "java/lang/IndexOutOfBoundsException" = true := by decide +kernel
set_option maxRecDepth 100000 in
theorem x_wO0 : (Jvm.Cond.classLink "TraceAligner" 121 "java/lang/IndexOutOfBoundsException" :: Jvm.Cond.initialized "java/lang/IndexOutOfBoundsException" :: vx_atS "TraceAligner" 125 "java/lang/IndexOutOfBoundsException" x_nm).all (fun w => decide (w ∈ am_big) || decide (w ∈ am_ws9)) = true := by decide +kernel
theorem x_wO : ∀ w ∈ Jvm.Cond.classLink "TraceAligner" 121 "java/lang/IndexOutOfBoundsException" :: Jvm.Cond.initialized "java/lang/IndexOutOfBoundsException" :: vx_atS "TraceAligner" 125 "java/lang/IndexOutOfBoundsException" x_nm, w ∈ am_big ∨ w ∈ am_ws9 := fun w h => (Bool.or_eq_true_iff.mp (List.all_eq_true.mp x_wO0 w h)).imp of_decide_eq_true of_decide_eq_true
/-- thrown: En0, and nothing but unknown cells behind h -/
def xo (En0 : String) (h : am_H) : String → am_H → Prop := fun En h' => En = En0 ∧ ∃ d, h' = h ++ List.replicate d am_unk
end
section
/-! LEAVES: small static methods, rows filled -/
theorem gs_s {h : am_H} {a : Nat} {x c : am_C} (ha : h[a]? = some x) : (h.set a c)[a]? = some c := List.getElem?_set_self (List.getElem?_eq_some_iff.mp ha).1
theorem gs_n {h : am_H} {a b : Nat} {x c : am_C} (hne : a ≠ b) (hb : h[b]? = some x) : (h.set a c)[b]? = some x := (List.getElem?_set_ne hne).trans hb
theorem gs_ss (h : am_H) (a : Nat) (c d : am_C) : (h.set a c).set a d = h.set a d := List.set_set ..
theorem gs_id {h : am_H} {a : Nat} {x : am_C} (ha : h[a]? = some x) : h.set a x = h := by
  apply List.ext_getElem?
  intro i
  by_cases e : a = i
  · subst e; rw [gs_s ha, ha]
  · rw [List.getElem?_set_ne e]
theorem vp_nI {k n : Nat} (h : k < n) (hn : n < 2 ^ 31) : vp_in (nI k) n := vp_in_nI h hn
-- a row filled with one number
set_option maxRecDepth 100000 in
set_option maxHeartbeats 4000000 in
theorem ct_AR_fill (f : Nat) (h : am_H) (a n : Nat) (g : Nat → Int32) (v : Int32) (ha : h[a]? = some (.inl (0, n, .inl g))) (hn : n < 2 ^ 31) : am_Ct am_G0 m_AR_fill f 0 0 [.ref a, .int v] h (fun r h' => r = none ∧ h' = h.set a (.inl (0, n, .inl fun j => if j < n then v else g j))) := by
  refine am_Ct.of (E := E_AR_fill) e_AR_fill (by decide) (Nat.le_of_ble_eq_true rfl) ?_
  refine am_B.run (hp := false) (sp := []) 200 rfl ?_
  refine am_B.alen rfl rfl ha (Or.inl ⟨by decide, rfl⟩) ?_
  refine am_B.run (hp := false) (sp := [5]) 200 rfl ?_
  have L : ∀ d i, i + d = n → am_B E_AR_fill (am_rm f 0 0) (am_ZM E_AR_fill 0 0 (fun r h' => r = none ∧ h' = h.set a (.inl (0, n, .inl fun j => if j < n then v else g j)))) 5 [some (.ref a), some (.int v), some (.int (nI i)), some (.int (nI n))] [] (h.set a (.inl (0, n, .inl fun j => if j < i then v else g j))) 0 0 := by
    intro d
    induction d with
    | zero =>
      intro i hi
      have e : i = n := by omega
      subst e
      refine am_B.run (hp := false) (sp := []) 200 rfl ?_
      refine am_B.icmp_ge rfl rfl (fun _ => ?_) (fun q => absurd (nI_le (Nat.le_refl _) hn) q)
      exact am_B.vret rfl rfl rfl ⟨rfl, rfl⟩
    | succ d ih =>
      intro i hi
      refine am_B.run (hp := false) (sp := []) 200 rfl ?_
      refine am_B.icmp_ge rfl rfl (fun q => absurd q (nI_ge (by omega) hn)) (fun _ => ?_)
      refine am_B.run (hp := false) (sp := []) 200 rfl ?_
      refine am_B.ast rfl (gs_s ha) (vp_nI (by omega) hn) rfl ?_
      refine am_B.run (hp := false) (sp := [5]) 200 rfl ?_
      have e := ih (i + 1) (by omega)
      rw [gs_ss, nI_clamp (show i < 2 ^ 31 by omega)]
      have e2 : upd (fun j => if j < i then v else g j) i v = fun j => if j < i + 1 then v else g j := by
        funext j
        unfold upd
        by_cases q : j = i
        · subst q; simp
        · by_cases q2 : j < i
          · simp [q, q2, show j < i + 1 by omega]
          · simp [q, q2, show ¬ j < i + 1 by omega]
      rw [e2, nI_1 i |> fun z => (show nI i + nI 1 = nI (i + 1) from z)]
      exact e
  have e0 := L n 0 (by omega)
  have e1 : (fun j => if j < 0 then v else g j) = g := by funext j; simp
  rw [e1, gs_id ha] at e0
  exact e0
end
section
/-! CONSTRUCTORS -/
theorem ap_get {h t : am_H} {n : Nat} {x : am_C} (hn : h[n]? = some x) : (h ++ t)[n]? = some x := (List.getElem?_append_left (List.getElem?_eq_some_iff.mp hn).1).trans hn
theorem ap_set {h t : am_H} {n : Nat} {x c : am_C} (hn : h[n]? = some x) : (h ++ t).set n c = h.set n c ++ t := List.set_append_left _ _ (List.getElem?_eq_some_iff.mp hn).1
theorem ap_ass {h s t : am_H} : (h ++ s) ++ t = h ++ (s ++ t) := List.append_assoc ..
theorem se_len {h : am_H} {n : Nat} {c : am_C} : (h.set n c).length = h.length := List.length_set
abbrev z_ (n : Nat) : am_C := .inl (0, n, .inl fun _ => 0)
set_option maxRecDepth 100000 in
set_option maxHeartbeats 4000000 in
theorem ct_NT_init (h : am_H) (a : Nat) (ha : h[a]? = some (.inr (1, [.int 0, .int 0, .null, .null, .null, .null, .null, .null]))) : am_Ct am_G0 m_NT_init 1 6 56 [.ref a] h (fun v h' => v = none ∧
    h' = h.set a (.inr (1, [.int 0, .int 0, .ref h.length, .ref (h.length + 1), .ref (h.length + 2), .ref (h.length + 3), .ref (h.length + 4), .ref (h.length + 5)])) ++ [z_ 10, z_ 10, z_ 10, z_ 10, z_ 8, z_ 8]) := by
  refine am_Ct.of (E := E_NT_init) e_NT_init (by decide) (Nat.le_of_ble_eq_true rfl) ?_
  refine am_B.run (hp := false) (sp := []) 200 rfl ?_
  refine am_B.obji rfl rfl ow_NT ow_1 ow_2 (Nat.le_of_ble_eq_true rfl) rfl ?_
  refine am_B.run (hp := false) (sp := []) 200 rfl ?_
  refine am_B.newI (n := 10) rfl rfl aw_int rfl (Nat.le_of_ble_eq_true rfl) ?_
  simp only [ap_ass, List.length_append, List.length_set, List.length_cons, List.length_nil, List.set_cons_zero, List.set_cons_succ, List.cons_append, List.nil_append, Nat.add_zero, Nat.zero_add, Nat.reduceAdd, Option.toList_none, Option.toList_some]
  refine am_B.run (hp := false) (sp := []) 200 rfl ?_
  refine am_B.put rfl rfl rfl (ap_get ha) rfl (Nat.le_of_ble_eq_true rfl) rfl (fun _ => rfl) ?_
  rw [ap_set ha]
  simp only [ap_ass, List.length_append, List.length_set, List.length_cons, List.length_nil, List.set_cons_zero, List.set_cons_succ, List.cons_append, List.nil_append, Nat.add_zero, Nat.zero_add, Nat.reduceAdd, Option.toList_none, Option.toList_some]
  refine am_B.run (hp := false) (sp := []) 200 rfl ?_
  refine am_B.newI (n := 10) rfl rfl aw_int rfl (Nat.le_of_ble_eq_true rfl) ?_
  simp only [ap_ass, List.length_append, List.length_set, List.length_cons, List.length_nil, List.set_cons_zero, List.set_cons_succ, List.cons_append, List.nil_append, Nat.add_zero, Nat.zero_add, Nat.reduceAdd, Option.toList_none, Option.toList_some]
  refine am_B.run (hp := false) (sp := []) 200 rfl ?_
  refine am_B.put rfl rfl rfl (ap_get (gs_s ha)) rfl (Nat.le_of_ble_eq_true rfl) rfl (fun _ => rfl) ?_
  rw [ap_set (gs_s ha), gs_ss]
  simp only [ap_ass, List.length_append, List.length_set, List.length_cons, List.length_nil, List.set_cons_zero, List.set_cons_succ, List.cons_append, List.nil_append, Nat.add_zero, Nat.zero_add, Nat.reduceAdd, Option.toList_none, Option.toList_some]
  refine am_B.run (hp := false) (sp := []) 200 rfl ?_
  refine am_B.newI (n := 10) rfl rfl aw_int rfl (Nat.le_of_ble_eq_true rfl) ?_
  simp only [ap_ass, List.length_append, List.length_set, List.length_cons, List.length_nil, List.set_cons_zero, List.set_cons_succ, List.cons_append, List.nil_append, Nat.add_zero, Nat.zero_add, Nat.reduceAdd, Option.toList_none, Option.toList_some]
  refine am_B.run (hp := false) (sp := []) 200 rfl ?_
  refine am_B.put rfl rfl rfl (ap_get (gs_s ha)) rfl (Nat.le_of_ble_eq_true rfl) rfl (fun _ => rfl) ?_
  rw [ap_set (gs_s ha), gs_ss]
  simp only [ap_ass, List.length_append, List.length_set, List.length_cons, List.length_nil, List.set_cons_zero, List.set_cons_succ, List.cons_append, List.nil_append, Nat.add_zero, Nat.zero_add, Nat.reduceAdd, Option.toList_none, Option.toList_some]
  refine am_B.run (hp := false) (sp := []) 200 rfl ?_
  refine am_B.newI (n := 10) rfl rfl aw_int rfl (Nat.le_of_ble_eq_true rfl) ?_
  simp only [ap_ass, List.length_append, List.length_set, List.length_cons, List.length_nil, List.set_cons_zero, List.set_cons_succ, List.cons_append, List.nil_append, Nat.add_zero, Nat.zero_add, Nat.reduceAdd, Option.toList_none, Option.toList_some]
  refine am_B.run (hp := false) (sp := []) 200 rfl ?_
  refine am_B.put rfl rfl rfl (ap_get (gs_s ha)) rfl (Nat.le_of_ble_eq_true rfl) rfl (fun _ => rfl) ?_
  rw [ap_set (gs_s ha), gs_ss]
  simp only [ap_ass, List.length_append, List.length_set, List.length_cons, List.length_nil, List.set_cons_zero, List.set_cons_succ, List.cons_append, List.nil_append, Nat.add_zero, Nat.zero_add, Nat.reduceAdd, Option.toList_none, Option.toList_some]
  refine am_B.run (hp := false) (sp := []) 200 rfl ?_
  refine am_B.newI (n := 8) rfl rfl aw_int rfl (Nat.le_of_ble_eq_true rfl) ?_
  simp only [ap_ass, List.length_append, List.length_set, List.length_cons, List.length_nil, List.set_cons_zero, List.set_cons_succ, List.cons_append, List.nil_append, Nat.add_zero, Nat.zero_add, Nat.reduceAdd, Option.toList_none, Option.toList_some]
  refine am_B.run (hp := false) (sp := []) 200 rfl ?_
  refine am_B.put rfl rfl rfl (ap_get (gs_s ha)) rfl (Nat.le_of_ble_eq_true rfl) rfl (fun _ => rfl) ?_
  rw [ap_set (gs_s ha), gs_ss]
  simp only [ap_ass, List.length_append, List.length_set, List.length_cons, List.length_nil, List.set_cons_zero, List.set_cons_succ, List.cons_append, List.nil_append, Nat.add_zero, Nat.zero_add, Nat.reduceAdd, Option.toList_none, Option.toList_some]
  refine am_B.run (hp := false) (sp := []) 200 rfl ?_
  refine am_B.newI (n := 8) rfl rfl aw_int rfl (Nat.le_of_ble_eq_true rfl) ?_
  simp only [ap_ass, List.length_append, List.length_set, List.length_cons, List.length_nil, List.set_cons_zero, List.set_cons_succ, List.cons_append, List.nil_append, Nat.add_zero, Nat.zero_add, Nat.reduceAdd, Option.toList_none, Option.toList_some]
  refine am_B.run (hp := false) (sp := []) 200 rfl ?_
  refine am_B.put rfl rfl rfl (ap_get (gs_s ha)) rfl (Nat.le_of_ble_eq_true rfl) rfl (fun _ => rfl) ?_
  rw [ap_set (gs_s ha), gs_ss]
  simp only [ap_ass, List.length_append, List.length_set, List.length_cons, List.length_nil, List.set_cons_zero, List.set_cons_succ, List.cons_append, List.nil_append, Nat.add_zero, Nat.zero_add, Nat.reduceAdd, Option.toList_none, Option.toList_some]
  refine am_B.run (hp := false) (sp := []) 200 rfl ?_
  exact am_B.vret rfl rfl rfl ⟨rfl, rfl⟩
set_option maxRecDepth 100000 in
set_option maxHeartbeats 4000000 in
theorem ct_MG_init (h : am_H) (a b : Nat) (ha : h[a]? = some (.inr (2, [.null, .null, .null, .null, .int 0, .int 0, .int 0]))) : am_Ct am_G0 m_MG_init 1 3 2400 [.ref a, .ref b] h (fun v h' => v = none ∧
    h' = h.set a (.inr (2, [.ref b, .ref h.length, .ref (h.length + 1), .ref (h.length + 2), .int 0, .int 0, .int 0])) ++ [z_ 200, z_ 200, z_ 2000]) := by
  refine am_Ct.of (E := E_MG_init) e_MG_init (by decide) (Nat.le_of_ble_eq_true rfl) ?_
  refine am_B.run (hp := false) (sp := []) 200 rfl ?_
  refine am_B.obji rfl rfl ow_MG ow_1 ow_2 (Nat.le_of_ble_eq_true rfl) rfl ?_
  refine am_B.run (hp := false) (sp := []) 200 rfl ?_
  refine am_B.newI (n := 200) rfl rfl aw_int rfl (Nat.le_of_ble_eq_true rfl) ?_
  simp only [ap_ass, List.length_append, List.length_set, List.length_cons, List.length_nil, List.set_cons_zero, List.set_cons_succ, List.cons_append, List.nil_append, Nat.add_zero, Nat.zero_add, Nat.reduceAdd, Option.toList_none, Option.toList_some]
  refine am_B.run (hp := false) (sp := []) 200 rfl ?_
  refine am_B.put rfl rfl rfl (ap_get ha) rfl (Nat.le_of_ble_eq_true rfl) rfl (fun _ => rfl) ?_
  rw [ap_set ha]
  simp only [ap_ass, List.length_append, List.length_set, List.length_cons, List.length_nil, List.set_cons_zero, List.set_cons_succ, List.cons_append, List.nil_append, Nat.add_zero, Nat.zero_add, Nat.reduceAdd, Option.toList_none, Option.toList_some]
  refine am_B.run (hp := false) (sp := []) 200 rfl ?_
  refine am_B.newI (n := 200) rfl rfl aw_int rfl (Nat.le_of_ble_eq_true rfl) ?_
  simp only [ap_ass, List.length_append, List.length_set, List.length_cons, List.length_nil, List.set_cons_zero, List.set_cons_succ, List.cons_append, List.nil_append, Nat.add_zero, Nat.zero_add, Nat.reduceAdd, Option.toList_none, Option.toList_some]
  refine am_B.run (hp := false) (sp := []) 200 rfl ?_
  refine am_B.put rfl rfl rfl (ap_get (gs_s ha)) rfl (Nat.le_of_ble_eq_true rfl) rfl (fun _ => rfl) ?_
  rw [ap_set (gs_s ha), gs_ss]
  simp only [ap_ass, List.length_append, List.length_set, List.length_cons, List.length_nil, List.set_cons_zero, List.set_cons_succ, List.cons_append, List.nil_append, Nat.add_zero, Nat.zero_add, Nat.reduceAdd, Option.toList_none, Option.toList_some]
  refine am_B.run (hp := false) (sp := []) 200 rfl ?_
  refine am_B.newI (n := 2000) rfl rfl aw_int rfl (Nat.le_of_ble_eq_true rfl) ?_
  simp only [ap_ass, List.length_append, List.length_set, List.length_cons, List.length_nil, List.set_cons_zero, List.set_cons_succ, List.cons_append, List.nil_append, Nat.add_zero, Nat.zero_add, Nat.reduceAdd, Option.toList_none, Option.toList_some]
  refine am_B.run (hp := false) (sp := []) 200 rfl ?_
  refine am_B.put rfl rfl rfl (ap_get (gs_s ha)) rfl (Nat.le_of_ble_eq_true rfl) rfl (fun _ => rfl) ?_
  rw [ap_set (gs_s ha), gs_ss]
  simp only [ap_ass, List.length_append, List.length_set, List.length_cons, List.length_nil, List.set_cons_zero, List.set_cons_succ, List.cons_append, List.nil_append, Nat.add_zero, Nat.zero_add, Nat.reduceAdd, Option.toList_none, Option.toList_some]
  refine am_B.run (hp := false) (sp := []) 200 rfl ?_
  refine am_B.put rfl rfl rfl (ap_get (gs_s ha)) rfl (Nat.le_of_ble_eq_true rfl) rfl (fun _ => rfl) ?_
  rw [ap_set (gs_s ha), gs_ss]
  simp only [ap_ass, List.length_append, List.length_set, List.length_cons, List.length_nil, List.set_cons_zero, List.set_cons_succ, List.cons_append, List.nil_append, Nat.add_zero, Nat.zero_add, Nat.reduceAdd, Option.toList_none, Option.toList_some]
  refine am_B.run (hp := false) (sp := []) 200 rfl ?_
  exact am_B.vret rfl rfl rfl ⟨rfl, rfl⟩
set_option maxRecDepth 100000 in
set_option maxHeartbeats 4000000 in
theorem ct_TR_init (h : am_H) (a : Nat) (ha : h[a]? = some (.inr (4, [.null, .int 0, .int 0, .int 0, .int 0, .int 0, .int 0, .null]))) : am_Ct am_G0 m_TR_init 1 2 24 [.ref a] h (fun v h' => v = none ∧
    h' = h.set a (.inr (4, [.ref h.length, .int 0, .int 0, .int 0, .int 0, .int 0, .int 0, .ref (h.length + 1)])) ++ [z_ 8, z_ 16]) := by
  refine am_Ct.of (E := E_TR_init) e_TR_init (by decide) (Nat.le_of_ble_eq_true rfl) ?_
  refine am_B.run (hp := false) (sp := []) 200 rfl ?_
  refine am_B.obji rfl rfl ow_TR ow_1 ow_2 (Nat.le_of_ble_eq_true rfl) rfl ?_
  refine am_B.run (hp := false) (sp := []) 200 rfl ?_
  refine am_B.newI (n := 8) rfl rfl aw_int rfl (Nat.le_of_ble_eq_true rfl) ?_
  simp only [ap_ass, List.length_append, List.length_set, List.length_cons, List.length_nil, List.set_cons_zero, List.set_cons_succ, List.cons_append, List.nil_append, Nat.add_zero, Nat.zero_add, Nat.reduceAdd, Option.toList_none, Option.toList_some]
  refine am_B.run (hp := false) (sp := []) 200 rfl ?_
  refine am_B.put rfl rfl rfl (ap_get ha) rfl (Nat.le_of_ble_eq_true rfl) rfl (fun _ => rfl) ?_
  rw [ap_set ha]
  simp only [ap_ass, List.length_append, List.length_set, List.length_cons, List.length_nil, List.set_cons_zero, List.set_cons_succ, List.cons_append, List.nil_append, Nat.add_zero, Nat.zero_add, Nat.reduceAdd, Option.toList_none, Option.toList_some]
  refine am_B.run (hp := false) (sp := []) 200 rfl ?_
  refine am_B.newI (n := 16) rfl rfl aw_int rfl (Nat.le_of_ble_eq_true rfl) ?_
  simp only [ap_ass, List.length_append, List.length_set, List.length_cons, List.length_nil, List.set_cons_zero, List.set_cons_succ, List.cons_append, List.nil_append, Nat.add_zero, Nat.zero_add, Nat.reduceAdd, Option.toList_none, Option.toList_some]
  refine am_B.run (hp := false) (sp := []) 200 rfl ?_
  refine am_B.put rfl rfl rfl (ap_get (gs_s ha)) rfl (Nat.le_of_ble_eq_true rfl) rfl (fun q => by cases q) ?_
  rw [ap_set (gs_s ha), gs_ss]
  simp only [ap_ass, List.length_append, List.length_set, List.length_cons, List.length_nil, List.set_cons_zero, List.set_cons_succ, List.cons_append, List.nil_append, Nat.add_zero, Nat.zero_add, Nat.reduceAdd, Option.toList_none, Option.toList_some]
  refine am_B.run (hp := false) (sp := []) 200 rfl ?_
  exact am_B.vret rfl rfl rfl ⟨rfl, rfl⟩
set_option maxRecDepth 100000 in
set_option maxHeartbeats 4000000 in
theorem ct_PF_init (h : am_H) (a b c d : Nat) (ha : h[a]? = some (.inr (3, [.null, .null, .null, .null, .null]))) : am_Ct am_G0 m_PF_init 1 11 1819 [.ref a, .ref b, .ref c, .ref d] h (fun v h' => v = none ∧
    h' = h.set a (.inr (3, [.ref b, .ref c, .ref d, .ref h.length, .ref (h.length + 1)])) ++ ([z_ 10, .inl (5, 9, .inr (.inr (.inr (.inr fun j => if j < 9 then some (h.length + 2 + j) else none))))] ++ List.replicate 9 (z_ 200))) := by
  refine am_Ct.of (E := E_PF_init) e_PF_init (by decide) (Nat.le_of_ble_eq_true rfl) ?_
  refine am_B.run (hp := false) (sp := []) 200 rfl ?_
  refine am_B.obji rfl rfl ow_PF ow_1 ow_2 (Nat.le_of_ble_eq_true rfl) rfl ?_
  refine am_B.run (hp := false) (sp := []) 200 rfl ?_
  refine am_B.newI (n := 10) rfl rfl aw_int rfl (Nat.le_of_ble_eq_true rfl) ?_
  simp only [ap_ass, List.length_append, List.length_set, List.length_cons, List.length_nil, List.set_cons_zero, List.set_cons_succ, List.cons_append, List.nil_append, Nat.add_zero, Nat.zero_add, Nat.reduceAdd, Option.toList_none, Option.toList_some]
  refine am_B.run (hp := false) (sp := []) 200 rfl ?_
  refine am_B.put rfl rfl rfl (ap_get ha) rfl (Nat.le_of_ble_eq_true rfl) rfl (fun _ => rfl) ?_
  rw [ap_set ha]
  simp only [ap_ass, List.length_append, List.length_set, List.length_cons, List.length_nil, List.set_cons_zero, List.set_cons_succ, List.cons_append, List.nil_append, Nat.add_zero, Nat.zero_add, Nat.reduceAdd, Option.toList_none, Option.toList_some]
  refine am_B.run (hp := false) (sp := []) 200 rfl ?_
  refine am_B.mna (N := 9) (M := 200) (rc := 0) (rs := 0) rfl rfl lw_PF_15 aw_int rfl rfl (Nat.le_of_ble_eq_true rfl) (Nat.le_of_ble_eq_true rfl) ?_
  simp only [ap_ass, List.length_append, List.length_set, List.length_cons, List.length_nil, List.set_cons_zero, List.set_cons_succ, List.cons_append, List.nil_append, Nat.add_zero, Nat.zero_add, Nat.reduceAdd, Option.toList_none, Option.toList_some]
  refine am_B.run (hp := false) (sp := []) 200 rfl ?_
  refine am_B.put rfl rfl rfl (ap_get (gs_s ha)) rfl (Nat.le_of_ble_eq_true rfl) rfl (fun _ => rfl) ?_
  rw [ap_set (gs_s ha), gs_ss]
  simp only [ap_ass, List.length_append, List.length_set, List.length_cons, List.length_nil, List.set_cons_zero, List.set_cons_succ, List.cons_append, List.nil_append, Nat.add_zero, Nat.zero_add, Nat.reduceAdd, Option.toList_none, Option.toList_some]
  refine am_B.run (hp := false) (sp := []) 200 rfl ?_
  refine am_B.put rfl rfl rfl (ap_get (gs_s ha)) rfl (Nat.le_of_ble_eq_true rfl) rfl (fun _ => rfl) ?_
  rw [ap_set (gs_s ha), gs_ss]
  simp only [ap_ass, List.length_append, List.length_set, List.length_cons, List.length_nil, List.set_cons_zero, List.set_cons_succ, List.cons_append, List.nil_append, Nat.add_zero, Nat.zero_add, Nat.reduceAdd, Option.toList_none, Option.toList_some]
  refine am_B.run (hp := false) (sp := []) 200 rfl ?_
  refine am_B.put rfl rfl rfl (ap_get (gs_s ha)) rfl (Nat.le_of_ble_eq_true rfl) rfl (fun _ => rfl) ?_
  rw [ap_set (gs_s ha), gs_ss]
  simp only [ap_ass, List.length_append, List.length_set, List.length_cons, List.length_nil, List.set_cons_zero, List.set_cons_succ, List.cons_append, List.nil_append, Nat.add_zero, Nat.zero_add, Nat.reduceAdd, Option.toList_none, Option.toList_some]
  refine am_B.run (hp := false) (sp := []) 200 rfl ?_
  refine am_B.put rfl rfl rfl (ap_get (gs_s ha)) rfl (Nat.le_of_ble_eq_true rfl) rfl (fun _ => rfl) ?_
  rw [ap_set (gs_s ha), gs_ss]
  simp only [ap_ass, List.length_append, List.length_set, List.length_cons, List.length_nil, List.set_cons_zero, List.set_cons_succ, List.cons_append, List.nil_append, Nat.add_zero, Nat.zero_add, Nat.reduceAdd, Option.toList_none, Option.toList_some]
  refine am_B.run (hp := false) (sp := []) 200 rfl ?_
  exact am_B.vret rfl rfl rfl ⟨rfl, rfl⟩
end
section
/-! THE WORLD that TraceAligner() makes: 0 the script, 1 the aligner, 2 its net (3..8 its rows), 9 its graph (10 codes, 11 enabled sets, 12 followers), 13 what labels cost, 14 the finder (15 weights, 16 rest, 17..25 its rows), 26 the buffer, 27 the traces, 28 + 3 k trace k (its labels, its path), 52 fired sets -/
abbrev ia (n : Nat) (f : Nat → Int32) : am_C := .inl (0, n, .inl f)
abbrev ra (t n : Nat) (f : Nat → Option Nat) : am_C := .inl (t, n, .inr (.inr (.inr (.inr f))))
abbrev c_TA (nb nt : Int32) : am_C := .inr (0, [.ref 2, .ref 9, .ref 14, .ref 13, .ref 26, .int nb, .ref 27, .int nt, .ref 52])
abbrev c_NT (pc tc : Int32) : am_C := .inr (1, [.int pc, .int tc, .ref 3, .ref 4, .ref 5, .ref 6, .ref 7, .ref 8])
abbrev c_MG (ex sz la : Int32) : am_C := .inr (2, [.ref 2, .ref 10, .ref 11, .ref 12, .int ex, .int sz, .int la])
abbrev c_PF : am_C := .inr (3, [.ref 2, .ref 9, .ref 13, .ref 15, .ref 16])
abbrev c_TR (i : Nat) (sz tm al lc wc mc : Int32) (p : Nat) : am_C := .inr (4, [.ref (29 + 3 * i), .int sz, .int tm, .int al, .int lc, .int wc, .int mc, .ref p])
abbrev rs_ : Nat → Option Nat := fun j => if j < 9 then some (17 + j) else none
abbrev ts_ : Nat → Option Nat := fun j => if j < 8 then some (28 + 3 * j) else none
def W0 (sc : am_C) : am_H := [sc, c_TA 0 0, c_NT 0 0, z_ 10, z_ 10, z_ 10, z_ 10, z_ 8, z_ 8, c_MG 0 0 0, z_ 200, z_ 200, z_ 2000, ia 6 (fun j => if j < 6 then nI 1 else 0), c_PF, z_ 10, ra 5 9 rs_,
  z_ 200, z_ 200, z_ 200, z_ 200, z_ 200, z_ 200, z_ 200, z_ 200, z_ 200, z_ 8, ra 4 8 ts_,
  c_TR 0 0 0 0 0 0 0 30, z_ 8, z_ 16, c_TR 1 0 0 0 0 0 0 33, z_ 8, z_ 16, c_TR 2 0 0 0 0 0 0 36, z_ 8, z_ 16, c_TR 3 0 0 0 0 0 0 39, z_ 8, z_ 16, c_TR 4 0 0 0 0 0 0 42, z_ 8, z_ 16, c_TR 5 0 0 0 0 0 0 45, z_ 8, z_ 16, c_TR 6 0 0 0 0 0 0 48, z_ 8, z_ 16, c_TR 7 0 0 0 0 0 0 51, z_ 8, z_ 16, z_ 200]
theorem ts_key : va_up (va_up (va_up (va_up (va_up (va_up (va_up (va_up (fun _ => none) 0 (some 28)) 1 (some 31)) 2 (some 34)) 3 (some 37)) 4 (some 40)) 5 (some 43)) 6 (some 46)) 7 (some 49) = ts_ := by
  funext j
  by_cases h : j < 8
  · obtain rfl | rfl | rfl | rfl | rfl | rfl | rfl | rfl : j = 0 ∨ j = 1 ∨ j = 2 ∨ j = 3 ∨ j = 4 ∨ j = 5 ∨ j = 6 ∨ j = 7 := by omega
    all_goals rfl
  · simp only [ts_, h, if_false, va_up, show j ≠ 0 by omega, show j ≠ 1 by omega, show j ≠ 2 by omega, show j ≠ 3 by omega, show j ≠ 4 by omega, show j ≠ 5 by omega, show j ≠ 6 by omega, show j ≠ 7 by omega]
set_option maxRecDepth 100000 in
set_option maxHeartbeats 4000000 in
theorem ct_TA_init (sc : am_C) : am_Ct am_G0 m_TA_init 2 51 4773 [.ref 1] [sc, .inr (0, [.null, .null, .null, .null, .null, .int 0, .null, .int 0, .null])] (fun v h' => v = none ∧ h' = W0 sc) := by
  refine am_Ct.of (E := E_TA_init) e_TA_init (by decide) (Nat.le_of_ble_eq_true rfl) ?_
  refine am_B.run (hp := false) (sp := []) 200 rfl ?_
  refine am_B.obji rfl rfl ow_TA ow_1 ow_2 (Nat.le_of_ble_eq_true rfl) rfl ?_
  refine am_B.run (hp := false) (sp := []) 200 rfl ?_
  refine am_B.new (q := (7, 1, [.int 0, .int 0, .null, .null, .null, .null, .null, .null])) rfl rfl rfl ?_
  refine am_B.run (hp := false) (sp := []) 200 rfl ?_
  refine am_B.callIN (ci := 1) (n := 0) (as := []) rfl rfl rfl (ct_NT_init _ 2 (by rfl)) rfl (by rfl) (by exact Nat.le_of_ble_eq_true rfl) (by rfl) (by rfl) (by rfl) (fun v h' q => ?_)
  obtain ⟨rfl, rfl⟩ := q
  simp only [List.set_cons_succ, List.set_cons_zero, List.cons_append, List.nil_append, List.length_cons, List.length_nil, Nat.reduceAdd, List.replicate_succ, List.replicate_zero, Option.toList_none, Option.toList_some]
  refine am_B.put rfl rfl rfl rfl rfl (Nat.le_of_ble_eq_true rfl) rfl (fun _ => rfl) ?_
  simp only [List.set_cons_succ, List.set_cons_zero, List.cons_append, List.nil_append, List.length_cons, List.length_nil, Nat.reduceAdd, List.replicate_succ, List.replicate_zero, Option.toList_none, Option.toList_some]
  refine am_B.run (hp := true) (sp := []) 200 rfl ?_
  refine am_B.new (q := (16, 2, [.null, .null, .null, .null, .int 0, .int 0, .int 0])) rfl rfl rfl ?_
  refine am_B.run (hp := true) (sp := []) 200 rfl ?_
  refine am_B.callI (ci := 2) (n := 1) (as := [.ref 2]) rfl rfl rfl (ct_MG_init _ 9 2 (by rfl)) rfl (by rfl) (by exact Nat.le_of_ble_eq_true rfl) (by rfl) (by rfl) (by rfl) (fun v h' q => ?_)
  obtain ⟨rfl, rfl⟩ := q
  simp only [List.set_cons_succ, List.set_cons_zero, List.cons_append, List.nil_append, List.length_cons, List.length_nil, Nat.reduceAdd, List.replicate_succ, List.replicate_zero, Option.toList_none, Option.toList_some]
  refine am_B.put rfl rfl rfl rfl rfl (Nat.le_of_ble_eq_true rfl) rfl (fun _ => rfl) ?_
  simp only [List.set_cons_succ, List.set_cons_zero, List.cons_append, List.nil_append, List.length_cons, List.length_nil, Nat.reduceAdd, List.replicate_succ, List.replicate_zero, Option.toList_none, Option.toList_some]
  refine am_B.run (hp := true) (sp := []) 200 rfl ?_
  refine am_B.newI (n := 6) rfl rfl aw_int rfl (Nat.le_of_ble_eq_true rfl) ?_
  simp only [List.set_cons_succ, List.set_cons_zero, List.cons_append, List.nil_append, List.length_cons, List.length_nil, Nat.reduceAdd, List.replicate_succ, List.replicate_zero, Option.toList_none, Option.toList_some]
  refine am_B.put rfl rfl rfl rfl rfl (Nat.le_of_ble_eq_true rfl) rfl (fun _ => rfl) ?_
  simp only [List.set_cons_succ, List.set_cons_zero, List.cons_append, List.nil_append, List.length_cons, List.length_nil, Nat.reduceAdd, List.replicate_succ, List.replicate_zero, Option.toList_none, Option.toList_some]
  refine am_B.run (hp := true) (sp := []) 200 rfl ?_
  refine am_B.callS (ci := 0) (n := 2) (as := [.ref 13, .int (nI 1)]) rfl rfl rfl (ct_AR_fill 0 _ 13 6 (fun _ => 0) (nI 1) (by rfl) (by decide)) rfl (by rfl) (by exact Nat.le_of_ble_eq_true rfl) (by rfl) (by rfl) (by rfl) (fun v h' q => ?_)
  obtain ⟨rfl, rfl⟩ := q
  simp only [List.set_cons_succ, List.set_cons_zero, List.cons_append, List.nil_append, List.length_cons, List.length_nil, Nat.reduceAdd, List.replicate_succ, List.replicate_zero, Option.toList_none, Option.toList_some]
  refine am_B.run (hp := true) (sp := []) 200 rfl ?_
  refine am_B.new (q := (35, 3, [.null, .null, .null, .null, .null])) rfl rfl rfl ?_
  refine am_B.run (hp := true) (sp := []) 200 rfl ?_
  refine am_B.callI (ci := 3) (n := 3) (as := [.ref 2, .ref 9, .ref 13]) rfl rfl rfl (ct_PF_init _ 14 2 9 13 (by rfl)) rfl (by rfl) (by exact Nat.le_of_ble_eq_true rfl) (by rfl) (by rfl) (by rfl) (fun v h' q => ?_)
  obtain ⟨rfl, rfl⟩ := q
  simp only [List.set_cons_succ, List.set_cons_zero, List.cons_append, List.nil_append, List.length_cons, List.length_nil, Nat.reduceAdd, List.replicate_succ, List.replicate_zero, Option.toList_none, Option.toList_some]
  refine am_B.put rfl rfl rfl rfl rfl (Nat.le_of_ble_eq_true rfl) rfl (fun _ => rfl) ?_
  simp only [List.set_cons_succ, List.set_cons_zero, List.cons_append, List.nil_append, List.length_cons, List.length_nil, Nat.reduceAdd, List.replicate_succ, List.replicate_zero, Option.toList_none, Option.toList_some]
  refine am_B.run (hp := true) (sp := []) 200 rfl ?_
  refine am_B.newI (n := 8) rfl rfl aw_int rfl (Nat.le_of_ble_eq_true rfl) ?_
  simp only [List.set_cons_succ, List.set_cons_zero, List.cons_append, List.nil_append, List.length_cons, List.length_nil, Nat.reduceAdd, List.replicate_succ, List.replicate_zero, Option.toList_none, Option.toList_some]
  refine am_B.put rfl rfl rfl rfl rfl (Nat.le_of_ble_eq_true rfl) rfl (fun _ => rfl) ?_
  simp only [List.set_cons_succ, List.set_cons_zero, List.cons_append, List.nil_append, List.length_cons, List.length_nil, Nat.reduceAdd, List.replicate_succ, List.replicate_zero, Option.toList_none, Option.toList_some]
  refine am_B.run (hp := true) (sp := []) 200 rfl ?_
  refine am_B.newT (n := 8) rfl rfl lw_TA_47 rfl (Nat.le_of_ble_eq_true rfl) ?_
  simp only [List.set_cons_succ, List.set_cons_zero, List.cons_append, List.nil_append, List.length_cons, List.length_nil, Nat.reduceAdd, List.replicate_succ, List.replicate_zero, Option.toList_none, Option.toList_some]
  refine am_B.put rfl rfl rfl rfl rfl (Nat.le_of_ble_eq_true rfl) rfl (fun _ => rfl) ?_
  simp only [List.set_cons_succ, List.set_cons_zero, List.cons_append, List.nil_append, List.length_cons, List.length_nil, Nat.reduceAdd, List.replicate_succ, List.replicate_zero, Option.toList_none, Option.toList_some]
  refine am_B.run (hp := true) (sp := [88]) 200 rfl ?_
  refine am_B.run (hp := true) (sp := []) 200 rfl ?_
  refine am_B.icmp_ge rfl rfl (fun q => absurd q (by decide)) (fun _ => ?_)
  refine am_B.run (hp := true) (sp := []) 200 rfl ?_
  refine am_B.new (q := (47, 4, [.null, .int 0, .int 0, .int 0, .int 0, .int 0, .int 0, .null])) rfl rfl rfl ?_
  refine am_B.run (hp := true) (sp := []) 200 rfl ?_
  refine am_B.callIN (ci := 4) (n := 0) (as := []) rfl rfl rfl (ct_TR_init _ 28 (by rfl)) rfl (by rfl) (by exact Nat.le_of_ble_eq_true rfl) (by rfl) (by rfl) (by rfl) (fun v h' q => ?_)
  obtain ⟨rfl, rfl⟩ := q
  simp only [List.set_cons_succ, List.set_cons_zero, List.cons_append, List.nil_append, List.length_cons, List.length_nil, Nat.reduceAdd, List.replicate_succ, List.replicate_zero, Option.toList_none, Option.toList_some]
  refine am_B.aast (b := 28) (ci := 4) rfl rfl rfl rfl rfl (vp_nI (k := 0) (by decide) (by decide)) ?_
  simp only [List.set_cons_succ, List.set_cons_zero, List.cons_append, List.nil_append, List.length_cons, List.length_nil, Nat.reduceAdd, List.replicate_succ, List.replicate_zero, Option.toList_none, Option.toList_some]
  refine am_B.run (hp := true) (sp := [88]) 200 rfl ?_
  refine am_B.run (hp := true) (sp := []) 200 rfl ?_
  refine am_B.icmp_ge rfl rfl (fun q => absurd q (by decide)) (fun _ => ?_)
  refine am_B.run (hp := true) (sp := []) 200 rfl ?_
  refine am_B.new (q := (47, 4, [.null, .int 0, .int 0, .int 0, .int 0, .int 0, .int 0, .null])) rfl rfl rfl ?_
  refine am_B.run (hp := true) (sp := []) 200 rfl ?_
  refine am_B.callIN (ci := 4) (n := 0) (as := []) rfl rfl rfl (ct_TR_init _ 31 (by rfl)) rfl (by rfl) (by exact Nat.le_of_ble_eq_true rfl) (by rfl) (by rfl) (by rfl) (fun v h' q => ?_)
  obtain ⟨rfl, rfl⟩ := q
  simp only [List.set_cons_succ, List.set_cons_zero, List.cons_append, List.nil_append, List.length_cons, List.length_nil, Nat.reduceAdd, List.replicate_succ, List.replicate_zero, Option.toList_none, Option.toList_some]
  refine am_B.aast (b := 31) (ci := 4) rfl rfl rfl rfl rfl (vp_nI (k := 1) (by decide) (by decide)) ?_
  simp only [List.set_cons_succ, List.set_cons_zero, List.cons_append, List.nil_append, List.length_cons, List.length_nil, Nat.reduceAdd, List.replicate_succ, List.replicate_zero, Option.toList_none, Option.toList_some]
  refine am_B.run (hp := true) (sp := [88]) 200 rfl ?_
  refine am_B.run (hp := true) (sp := []) 200 rfl ?_
  refine am_B.icmp_ge rfl rfl (fun q => absurd q (by decide)) (fun _ => ?_)
  refine am_B.run (hp := true) (sp := []) 200 rfl ?_
  refine am_B.new (q := (47, 4, [.null, .int 0, .int 0, .int 0, .int 0, .int 0, .int 0, .null])) rfl rfl rfl ?_
  refine am_B.run (hp := true) (sp := []) 200 rfl ?_
  refine am_B.callIN (ci := 4) (n := 0) (as := []) rfl rfl rfl (ct_TR_init _ 34 (by rfl)) rfl (by rfl) (by exact Nat.le_of_ble_eq_true rfl) (by rfl) (by rfl) (by rfl) (fun v h' q => ?_)
  obtain ⟨rfl, rfl⟩ := q
  simp only [List.set_cons_succ, List.set_cons_zero, List.cons_append, List.nil_append, List.length_cons, List.length_nil, Nat.reduceAdd, List.replicate_succ, List.replicate_zero, Option.toList_none, Option.toList_some]
  refine am_B.aast (b := 34) (ci := 4) rfl rfl rfl rfl rfl (vp_nI (k := 2) (by decide) (by decide)) ?_
  simp only [List.set_cons_succ, List.set_cons_zero, List.cons_append, List.nil_append, List.length_cons, List.length_nil, Nat.reduceAdd, List.replicate_succ, List.replicate_zero, Option.toList_none, Option.toList_some]
  refine am_B.run (hp := true) (sp := [88]) 200 rfl ?_
  refine am_B.run (hp := true) (sp := []) 200 rfl ?_
  refine am_B.icmp_ge rfl rfl (fun q => absurd q (by decide)) (fun _ => ?_)
  refine am_B.run (hp := true) (sp := []) 200 rfl ?_
  refine am_B.new (q := (47, 4, [.null, .int 0, .int 0, .int 0, .int 0, .int 0, .int 0, .null])) rfl rfl rfl ?_
  refine am_B.run (hp := true) (sp := []) 200 rfl ?_
  refine am_B.callIN (ci := 4) (n := 0) (as := []) rfl rfl rfl (ct_TR_init _ 37 (by rfl)) rfl (by rfl) (by exact Nat.le_of_ble_eq_true rfl) (by rfl) (by rfl) (by rfl) (fun v h' q => ?_)
  obtain ⟨rfl, rfl⟩ := q
  simp only [List.set_cons_succ, List.set_cons_zero, List.cons_append, List.nil_append, List.length_cons, List.length_nil, Nat.reduceAdd, List.replicate_succ, List.replicate_zero, Option.toList_none, Option.toList_some]
  refine am_B.aast (b := 37) (ci := 4) rfl rfl rfl rfl rfl (vp_nI (k := 3) (by decide) (by decide)) ?_
  simp only [List.set_cons_succ, List.set_cons_zero, List.cons_append, List.nil_append, List.length_cons, List.length_nil, Nat.reduceAdd, List.replicate_succ, List.replicate_zero, Option.toList_none, Option.toList_some]
  refine am_B.run (hp := true) (sp := [88]) 200 rfl ?_
  refine am_B.run (hp := true) (sp := []) 200 rfl ?_
  refine am_B.icmp_ge rfl rfl (fun q => absurd q (by decide)) (fun _ => ?_)
  refine am_B.run (hp := true) (sp := []) 200 rfl ?_
  refine am_B.new (q := (47, 4, [.null, .int 0, .int 0, .int 0, .int 0, .int 0, .int 0, .null])) rfl rfl rfl ?_
  refine am_B.run (hp := true) (sp := []) 200 rfl ?_
  refine am_B.callIN (ci := 4) (n := 0) (as := []) rfl rfl rfl (ct_TR_init _ 40 (by rfl)) rfl (by rfl) (by exact Nat.le_of_ble_eq_true rfl) (by rfl) (by rfl) (by rfl) (fun v h' q => ?_)
  obtain ⟨rfl, rfl⟩ := q
  simp only [List.set_cons_succ, List.set_cons_zero, List.cons_append, List.nil_append, List.length_cons, List.length_nil, Nat.reduceAdd, List.replicate_succ, List.replicate_zero, Option.toList_none, Option.toList_some]
  refine am_B.aast (b := 40) (ci := 4) rfl rfl rfl rfl rfl (vp_nI (k := 4) (by decide) (by decide)) ?_
  simp only [List.set_cons_succ, List.set_cons_zero, List.cons_append, List.nil_append, List.length_cons, List.length_nil, Nat.reduceAdd, List.replicate_succ, List.replicate_zero, Option.toList_none, Option.toList_some]
  refine am_B.run (hp := true) (sp := [88]) 200 rfl ?_
  refine am_B.run (hp := true) (sp := []) 200 rfl ?_
  refine am_B.icmp_ge rfl rfl (fun q => absurd q (by decide)) (fun _ => ?_)
  refine am_B.run (hp := true) (sp := []) 200 rfl ?_
  refine am_B.new (q := (47, 4, [.null, .int 0, .int 0, .int 0, .int 0, .int 0, .int 0, .null])) rfl rfl rfl ?_
  refine am_B.run (hp := true) (sp := []) 200 rfl ?_
  refine am_B.callIN (ci := 4) (n := 0) (as := []) rfl rfl rfl (ct_TR_init _ 43 (by rfl)) rfl (by rfl) (by exact Nat.le_of_ble_eq_true rfl) (by rfl) (by rfl) (by rfl) (fun v h' q => ?_)
  obtain ⟨rfl, rfl⟩ := q
  simp only [List.set_cons_succ, List.set_cons_zero, List.cons_append, List.nil_append, List.length_cons, List.length_nil, Nat.reduceAdd, List.replicate_succ, List.replicate_zero, Option.toList_none, Option.toList_some]
  refine am_B.aast (b := 43) (ci := 4) rfl rfl rfl rfl rfl (vp_nI (k := 5) (by decide) (by decide)) ?_
  simp only [List.set_cons_succ, List.set_cons_zero, List.cons_append, List.nil_append, List.length_cons, List.length_nil, Nat.reduceAdd, List.replicate_succ, List.replicate_zero, Option.toList_none, Option.toList_some]
  refine am_B.run (hp := true) (sp := [88]) 200 rfl ?_
  refine am_B.run (hp := true) (sp := []) 200 rfl ?_
  refine am_B.icmp_ge rfl rfl (fun q => absurd q (by decide)) (fun _ => ?_)
  refine am_B.run (hp := true) (sp := []) 200 rfl ?_
  refine am_B.new (q := (47, 4, [.null, .int 0, .int 0, .int 0, .int 0, .int 0, .int 0, .null])) rfl rfl rfl ?_
  refine am_B.run (hp := true) (sp := []) 200 rfl ?_
  refine am_B.callIN (ci := 4) (n := 0) (as := []) rfl rfl rfl (ct_TR_init _ 46 (by rfl)) rfl (by rfl) (by exact Nat.le_of_ble_eq_true rfl) (by rfl) (by rfl) (by rfl) (fun v h' q => ?_)
  obtain ⟨rfl, rfl⟩ := q
  simp only [List.set_cons_succ, List.set_cons_zero, List.cons_append, List.nil_append, List.length_cons, List.length_nil, Nat.reduceAdd, List.replicate_succ, List.replicate_zero, Option.toList_none, Option.toList_some]
  refine am_B.aast (b := 46) (ci := 4) rfl rfl rfl rfl rfl (vp_nI (k := 6) (by decide) (by decide)) ?_
  simp only [List.set_cons_succ, List.set_cons_zero, List.cons_append, List.nil_append, List.length_cons, List.length_nil, Nat.reduceAdd, List.replicate_succ, List.replicate_zero, Option.toList_none, Option.toList_some]
  refine am_B.run (hp := true) (sp := [88]) 200 rfl ?_
  refine am_B.run (hp := true) (sp := []) 200 rfl ?_
  refine am_B.icmp_ge rfl rfl (fun q => absurd q (by decide)) (fun _ => ?_)
  refine am_B.run (hp := true) (sp := []) 200 rfl ?_
  refine am_B.new (q := (47, 4, [.null, .int 0, .int 0, .int 0, .int 0, .int 0, .int 0, .null])) rfl rfl rfl ?_
  refine am_B.run (hp := true) (sp := []) 200 rfl ?_
  refine am_B.callIN (ci := 4) (n := 0) (as := []) rfl rfl rfl (ct_TR_init _ 49 (by rfl)) rfl (by rfl) (by exact Nat.le_of_ble_eq_true rfl) (by rfl) (by rfl) (by rfl) (fun v h' q => ?_)
  obtain ⟨rfl, rfl⟩ := q
  simp only [List.set_cons_succ, List.set_cons_zero, List.cons_append, List.nil_append, List.length_cons, List.length_nil, Nat.reduceAdd, List.replicate_succ, List.replicate_zero, Option.toList_none, Option.toList_some]
  refine am_B.aast (b := 49) (ci := 4) rfl rfl rfl rfl rfl (vp_nI (k := 7) (by decide) (by decide)) ?_
  simp only [List.set_cons_succ, List.set_cons_zero, List.cons_append, List.nil_append, List.length_cons, List.length_nil, Nat.reduceAdd, List.replicate_succ, List.replicate_zero, Option.toList_none, Option.toList_some]
  refine am_B.run (hp := true) (sp := [88]) 200 rfl ?_
  refine am_B.run (hp := true) (sp := []) 200 rfl ?_
  refine am_B.icmp_ge rfl rfl (fun _ => ?_) (fun q => absurd (by decide) q)
  refine am_B.run (hp := true) (sp := []) 200 rfl ?_
  refine am_B.newI (n := 200) rfl rfl aw_int rfl (Nat.le_of_ble_eq_true rfl) ?_
  simp only [List.set_cons_succ, List.set_cons_zero, List.cons_append, List.nil_append, List.length_cons, List.length_nil, Nat.reduceAdd, List.replicate_succ, List.replicate_zero, Option.toList_none, Option.toList_some]
  refine am_B.put rfl rfl rfl rfl rfl (Nat.le_of_ble_eq_true rfl) rfl (fun _ => rfl) ?_
  simp only [List.set_cons_succ, List.set_cons_zero, List.cons_append, List.nil_append, List.length_cons, List.length_nil, Nat.reduceAdd, List.replicate_succ, List.replicate_zero, Option.toList_none, Option.toList_some]
  refine am_B.run (hp := true) (sp := []) 200 rfl ?_
  refine am_B.vret rfl rfl rfl ⟨rfl, ?_⟩
  unfold W0
  rw [← ts_key]
  rfl
end
section
/-! A FRESH ALIGNER: what its methods do at once after its making -/
theorem vp_n {k n : Nat} (h : k < n) (hn : Nat.ble (n + 1) 2147483648 = true) : vp_in (nI k) n := vp_in_nI h (Nat.le_of_ble_eq_true hn)
theorem nI_neg1 {k : Nat} (h : k < 2 ^ 31) : ¬ nI k = -1 := by
  intro e
  have h1 := nI_toInt h
  rw [e] at h1
  have h2 : ((-1 : Int32)).toInt = -1 := rfl
  rw [h2] at h1
  omega
def n4 (h : am_H) (a b c d : am_C) : am_H := (((h.set 9 a).set 10 b).set 11 c).set 12 d
theorem n4_s9 {h : am_H} {a b c d x : am_C} : (n4 h a b c d).set 9 x = n4 h x b c d := by
  unfold n4
  rw [List.set_comm _ _ (by decide : (12 : Nat) ≠ 9), List.set_comm _ _ (by decide : (11 : Nat) ≠ 9), List.set_comm _ _ (by decide : (10 : Nat) ≠ 9), List.set_set]
theorem n4_s10 {h : am_H} {a b c d x : am_C} : (n4 h a b c d).set 10 x = n4 h a x c d := by
  unfold n4
  rw [List.set_comm _ _ (by decide : (12 : Nat) ≠ 10), List.set_comm _ _ (by decide : (11 : Nat) ≠ 10), List.set_set]
theorem n4_s11 {h : am_H} {a b c d x : am_C} : (n4 h a b c d).set 11 x = n4 h a b x d := by
  unfold n4
  rw [List.set_comm _ _ (by decide : (12 : Nat) ≠ 11), List.set_set]
theorem n4_s12 {h : am_H} {a b c d x : am_C} : (n4 h a b c d).set 12 x = n4 h a b c x := by
  unfold n4
  rw [List.set_set]
theorem n4_9 {h : am_H} {a b c d : am_C} (hl : 12 < h.length) : (n4 h a b c d)[9]? = some a := by
  unfold n4
  rw [List.getElem?_set_ne (by decide), List.getElem?_set_ne (by decide), List.getElem?_set_ne (by decide), List.getElem?_set_self (by omega)]
theorem n4_10 {h : am_H} {a b c d : am_C} (hl : 12 < h.length) : (n4 h a b c d)[10]? = some b := by
  unfold n4
  rw [List.getElem?_set_ne (by decide), List.getElem?_set_ne (by decide), List.getElem?_set_self (by rw [List.length_set]; omega)]
theorem n4_11 {h : am_H} {a b c d : am_C} (hl : 12 < h.length) : (n4 h a b c d)[11]? = some c := by
  unfold n4
  rw [List.getElem?_set_ne (by decide), List.getElem?_set_self (by rw [List.length_set, List.length_set]; omega)]
theorem n4_12 {h : am_H} {a b c d : am_C} (hl : 12 < h.length) : (n4 h a b c d)[12]? = some d := by
  unfold n4
  rw [List.getElem?_set_self (by rw [List.length_set, List.length_set, List.length_set]; omega)]
theorem n4_o {h : am_H} {a b c d : am_C} {k : Nat} (h9 : 9 ≠ k) (h10 : 10 ≠ k) (h11 : 11 ≠ k) (h12 : 12 ≠ k) : (n4 h a b c d)[k]? = h[k]? := by
  unfold n4
  rw [List.getElem?_set_ne h12, List.getElem?_set_ne h11, List.getElem?_set_ne h10, List.getElem?_set_ne h9]
theorem n4_id {h : am_H} {a b c d : am_C} (h9 : h[9]? = some a) (h10 : h[10]? = some b) (h11 : h[11]? = some c) (h12 : h[12]? = some d) : n4 h a b c d = h := by
  unfold n4
  rw [gs_id h9, gs_id h10, gs_id h11, gs_id h12]
theorem n4_n4 {h : am_H} {a b c d a' b' c' d' : am_C} : n4 (n4 h a b c d) a' b' c' d' = n4 h a' b' c' d' := by
  show ((((n4 h a b c d).set 9 a').set 10 b').set 11 c').set 12 d' = _
  rw [n4_s9, n4_s10, n4_s11, n4_s12]
theorem ts_get {j : Nat} (hj : j < 8) : am_aget .aaload 4 (8, .inr (.inr (.inr (.inr ts_)))) (nI j).toNatClampNeg = some (.ref (28 + 3 * j)) := by
  rw [nI_clamp (by omega)]
  show some (am_rv ts_ j) = _
  unfold am_rv ts_
  rw [if_pos hj]
theorem nI_prd (j : Nat) : nI (j + 1) - nI 1 = nI j := nI_pred j
theorem upd_s {g : Nat → Int32} {i : Nat} {v : Int32} : upd g i v i = v := pk_us
/-- fresh -/
def xF (h : am_H) : Prop := 69 ≤ h.length ∧ h[1]? = some (c_TA (nI 0) (nI 0)) ∧ h[2]? = some (c_NT (nI 0) (nI 0)) ∧ h[3]? = some (z_ 10) ∧ h[4]? = some (z_ 10) ∧ h[7]? = some (z_ 8) ∧ h[8]? = some (z_ 8) ∧ h[9]? = some (c_MG (nI 0) 0 0) ∧ h[10]? = some (z_ 200) ∧ h[11]? = some (z_ 200) ∧ h[12]? = some (z_ 2000) ∧
  h[13]? = some (ia 6 (fun j => if j < 6 then nI 1 else 0)) ∧ h[14]? = some c_PF ∧ h[15]? = some (z_ 10) ∧ h[16]? = some (ra 5 9 rs_) ∧ h[17]? = some (z_ 200) ∧ h[26]? = some (z_ 8) ∧ h[27]? = some (ra 4 8 ts_) ∧ h[52]? = some (z_ 200) ∧ (∀ i, i < 8 → h[28 + 3 * i]? = some (c_TR i 0 0 (nI 0) 0 0 0 (30 + 3 * i))) ∧ h[29]? = some (z_ 8)
/-- explored, fresh -/
def hE (h : am_H) : am_H := n4 h (c_MG (nI 1) (nI 1) (nI 0)) (ia 200 (upd (fun _ => 0) 0 (nI 0))) (ia 200 (upd (fun _ => 0) 0 (nI 0))) (z_ 2000)
/-- what lies behind the aligner's own cells is as it was -/
def xk (h h' : am_H) : Prop := h'.length = h.length ∧ ∀ a, (a = 0 ∨ 53 ≤ a) → h'[a]? = h[a]?
theorem xk.rf (h : am_H) : xk h h := ⟨rfl, fun _ _ => rfl⟩
theorem xk.set {h h' : am_H} (k : xk h h') {a : Nat} (ha : 0 < a ∧ a < 53) (x : am_C) : xk h (h'.set a x) := ⟨by rw [List.length_set]; exact k.1, fun b hb => by rw [List.getElem?_set_ne (by omega)]; exact k.2 b hb⟩
theorem xk_hE (h : am_H) : xk h (hE h) := ⟨by unfold hE n4; rw [List.length_set, List.length_set, List.length_set, List.length_set], fun b hb => n4_o (by omega) (by omega) (by omega) (by omega)⟩
set_option maxRecDepth 100000 in
set_option maxHeartbeats 4000000 in
theorem xt_codeOf (f : Nat) (h : am_H) (a : Nat) (tc : Int32) (g : Nat → Int32) (h2 : h[2]? = some (c_NT (nI 0) tc)) : am_Ct am_G0 m_NT_codeOf f 0 0 [.ref 2, .ref a] h (fun v h' => h' = h ∧ v = some (.int (nI 0))) := by
  refine am_Ct.of (E := E_NT_codeOf) e_NT_codeOf (by decide) (Nat.le_of_ble_eq_true rfl) ?_
  refine am_B.run (hp := false) (sp := []) 200 rfl ?_
  refine am_B.get rfl rfl rfl (by first | assumption | exact gs_s (by first | assumption | exact gs_s (by first | assumption | exact gs_s (by assumption) | (refine gs_n (by decide) ?_; assumption)) | (refine gs_n (by decide) ?_; first | assumption | exact gs_s (by assumption) | (refine gs_n (by decide) ?_; assumption))) | (refine gs_n (by decide) ?_; first | assumption | exact gs_s (by first | assumption | exact gs_s (by assumption) | (refine gs_n (by decide) ?_; assumption)) | (refine gs_n (by decide) ?_; first | assumption | exact gs_s (by assumption) | (refine gs_n (by decide) ?_; assumption)))) rfl rfl ?_
  refine am_B.icmp_ge rfl rfl (fun _ => ?_) (fun q => absurd (by decide) q)
  refine am_B.run (hp := false) (sp := []) 200 rfl ?_
  exact am_B.iret rfl rfl rfl ⟨rfl, rfl⟩
set_option maxRecDepth 100000 in
set_option maxHeartbeats 4000000 in
theorem xt_numberOf (f : Nat) (h : am_H) (ex la : Int32) (g : Nat → Int32) (hg : g 0 = nI 0) (h9 : h[9]? = some (c_MG ex (nI 1) la)) (h10 : h[10]? = some (ia 200 g)) : am_Ct am_G0 m_MG_numberOf f 0 0 [.ref 9, .int (nI 0)] h (fun v h' => h' = h ∧ v = some (.int (nI 0))) := by
  refine am_Ct.of (E := E_MG_numberOf) e_MG_numberOf (by decide) (Nat.le_of_ble_eq_true rfl) ?_
  refine am_B.run (hp := false) (sp := []) 200 rfl ?_
  refine am_B.get rfl rfl rfl (by first | assumption | exact gs_s (by first | assumption | exact gs_s (by first | assumption | exact gs_s (by assumption) | (refine gs_n (by decide) ?_; assumption)) | (refine gs_n (by decide) ?_; first | assumption | exact gs_s (by assumption) | (refine gs_n (by decide) ?_; assumption))) | (refine gs_n (by decide) ?_; first | assumption | exact gs_s (by first | assumption | exact gs_s (by assumption) | (refine gs_n (by decide) ?_; assumption)) | (refine gs_n (by decide) ?_; first | assumption | exact gs_s (by assumption) | (refine gs_n (by decide) ?_; assumption)))) rfl rfl ?_
  refine am_B.icmp_ge rfl rfl (fun q => absurd q (by decide)) (fun _ => ?_)
  refine am_B.run (hp := false) (sp := []) 200 rfl ?_
  refine am_B.get rfl rfl rfl (by first | assumption | exact gs_s (by first | assumption | exact gs_s (by first | assumption | exact gs_s (by assumption) | (refine gs_n (by decide) ?_; assumption)) | (refine gs_n (by decide) ?_; first | assumption | exact gs_s (by assumption) | (refine gs_n (by decide) ?_; assumption))) | (refine gs_n (by decide) ?_; first | assumption | exact gs_s (by first | assumption | exact gs_s (by assumption) | (refine gs_n (by decide) ?_; assumption)) | (refine gs_n (by decide) ?_; first | assumption | exact gs_s (by assumption) | (refine gs_n (by decide) ?_; assumption)))) rfl rfl ?_
  refine am_B.run (hp := false) (sp := []) 200 rfl ?_
  refine am_B.ald rfl h10 (vp_n (show 0 < 200 by decide) rfl) rfl ?_
  rw [nI_clamp (show 0 < 2 ^ 31 by decide), hg]
  refine am_B.run (hp := false) (sp := []) 200 rfl ?_
  refine am_B.icmp_ne rfl rfl (fun q => absurd rfl q) (fun _ => ?_)
  refine am_B.run (hp := false) (sp := []) 200 rfl ?_
  exact am_B.iret rfl rfl rfl ⟨rfl, rfl⟩
set_option maxRecDepth 100000 in
set_option maxHeartbeats 4000000 in
theorem xt_followAll (f : Nat) (h : am_H) (pc ex sz la : Int32) (g : Nat → Int32) (h2 : h[2]? = some (c_NT pc (nI 0))) (h9 : h[9]? = some (c_MG ex sz la)) (h11 : h[11]? = some (ia 200 g)) : am_Ct am_G0 m_MG_followAll f 0 0 [.ref 9, .int (nI 0)] h (fun v h' => h' = h.set 11 (ia 200 (upd g 0 (nI 0))) ∧ v = some (.int (nI 1))) := by
  refine am_Ct.of (E := E_MG_followAll) e_MG_followAll (by decide) (Nat.le_of_ble_eq_true rfl) ?_
  refine am_B.run (hp := false) (sp := []) 200 rfl ?_
  refine am_B.get rfl rfl rfl (by first | assumption | exact gs_s (by first | assumption | exact gs_s (by first | assumption | exact gs_s (by assumption) | (refine gs_n (by decide) ?_; assumption)) | (refine gs_n (by decide) ?_; first | assumption | exact gs_s (by assumption) | (refine gs_n (by decide) ?_; assumption))) | (refine gs_n (by decide) ?_; first | assumption | exact gs_s (by first | assumption | exact gs_s (by assumption) | (refine gs_n (by decide) ?_; assumption)) | (refine gs_n (by decide) ?_; first | assumption | exact gs_s (by assumption) | (refine gs_n (by decide) ?_; assumption)))) rfl rfl ?_
  refine am_B.run (hp := false) (sp := []) 200 rfl ?_
  refine am_B.ast rfl h11 (vp_n (show 0 < 200 by decide) rfl) rfl ?_
  rw [nI_clamp (show 0 < 2 ^ 31 by decide)]
  refine am_B.run (hp := false) (sp := []) 200 rfl ?_
  refine am_B.get rfl rfl rfl (by first | assumption | exact gs_s (by first | assumption | exact gs_s (by first | assumption | exact gs_s (by assumption) | (refine gs_n (by decide) ?_; assumption)) | (refine gs_n (by decide) ?_; first | assumption | exact gs_s (by assumption) | (refine gs_n (by decide) ?_; assumption))) | (refine gs_n (by decide) ?_; first | assumption | exact gs_s (by first | assumption | exact gs_s (by assumption) | (refine gs_n (by decide) ?_; assumption)) | (refine gs_n (by decide) ?_; first | assumption | exact gs_s (by assumption) | (refine gs_n (by decide) ?_; assumption)))) rfl rfl ?_
  refine am_B.run (hp := false) (sp := []) 200 rfl ?_
  refine am_B.get rfl rfl rfl (by first | assumption | exact gs_s (by first | assumption | exact gs_s (by first | assumption | exact gs_s (by assumption) | (refine gs_n (by decide) ?_; assumption)) | (refine gs_n (by decide) ?_; first | assumption | exact gs_s (by assumption) | (refine gs_n (by decide) ?_; assumption))) | (refine gs_n (by decide) ?_; first | assumption | exact gs_s (by first | assumption | exact gs_s (by assumption) | (refine gs_n (by decide) ?_; assumption)) | (refine gs_n (by decide) ?_; first | assumption | exact gs_s (by assumption) | (refine gs_n (by decide) ?_; assumption)))) rfl rfl ?_
  refine am_B.icmp_ge rfl rfl (fun _ => ?_) (fun q => absurd (by decide) q)
  refine am_B.run (hp := false) (sp := []) 200 rfl ?_
  exact am_B.zret rfl rfl rfl rfl ⟨rfl, rfl⟩
set_option maxRecDepth 100000 in
set_option maxHeartbeats 4000000 in
theorem xt_explore (h : am_H) (hl : 12 < h.length) (h2 : h[2]? = some (c_NT (nI 0) (nI 0))) (h7 : h[7]? = some (z_ 8)) (h8 : h[8]? = some (z_ 8)) : am_Ct am_G0 m_MG_explore 1 0 0 [.ref 9] (n4 h (c_MG (nI 0) 0 0) (z_ 200) (z_ 200) (z_ 2000)) (fun v h' => v = none ∧ h' = hE h) := by
  refine am_Ct.of (E := E_MG_explore) e_MG_explore (by decide) (Nat.le_of_ble_eq_true rfl) ?_
  have o : ∀ {a b c d : am_C} {k : Nat} {x : am_C}, k < 9 → h[k]? = some x → (n4 h a b c d)[k]? = some x := fun hk hx => (n4_o (by omega) (by omega) (by omega) (by omega)).trans hx
  refine am_B.run (hp := false) (sp := []) 200 rfl ?_
  refine am_B.get rfl rfl rfl (n4_9 hl) rfl rfl ?_
  refine am_B.run (hp := false) (sp := []) 200 rfl ?_
  refine am_B.if_eq rfl rfl (fun _ => ?_) (fun z => absurd rfl z)
  refine am_B.run (hp := false) (sp := []) 200 rfl ?_
  refine am_B.put rfl rfl rfl (n4_9 hl) rfl (Nat.le_of_ble_eq_true rfl) rfl (fun q => by cases q) ?_
  rw [n4_s9]
  refine am_B.run (hp := false) (sp := []) 200 rfl ?_
  refine am_B.put rfl rfl rfl (n4_9 hl) rfl (Nat.le_of_ble_eq_true rfl) rfl (fun q => by cases q) ?_
  rw [n4_s9]
  refine am_B.run (hp := false) (sp := []) 200 rfl ?_
  refine am_B.get rfl rfl rfl (n4_9 hl) rfl rfl ?_
  refine am_B.run (hp := false) (sp := []) 200 rfl ?_
  refine am_B.get rfl rfl rfl (n4_9 hl) rfl rfl ?_
  refine am_B.run (hp := false) (sp := []) 200 rfl ?_
  refine am_B.get rfl rfl rfl (n4_9 hl) rfl rfl ?_
  refine am_B.get rfl rfl rfl (o (by decide) h2) rfl rfl ?_
  refine am_B.callV (ci := 1) (n := 1) (as := [.ref 7]) rfl rfl rfl (xt_codeOf 0 _ 7 (nI 0) (fun _ => 0) (o (by decide) h2)) rfl rfl (by exact Nat.le_of_ble_eq_true rfl) rfl (o (by decide) h2) rfl rfl (fun v h' z => ?_)
  obtain ⟨rfl, rfl⟩ := z
  refine am_B.ast rfl (n4_10 hl) (vp_n (show 0 < 200 by decide) rfl) rfl ?_
  rw [nI_clamp (show 0 < 2 ^ 31 by decide), n4_s10]
  refine am_B.run (hp := false) (sp := []) 200 rfl ?_
  refine am_B.put rfl rfl rfl (n4_9 hl) rfl (Nat.le_of_ble_eq_true rfl) rfl (fun q => by cases q) ?_
  rw [n4_s9]
  refine am_B.run (hp := false) (sp := []) 200 rfl ?_
  refine am_B.icmp_ge rfl rfl (fun q => absurd q (by decide)) (fun _ => ?_)
  refine am_B.run (hp := false) (sp := []) 200 rfl ?_
  refine am_B.get rfl rfl rfl (n4_9 hl) rfl rfl ?_
  refine am_B.icmp_ge rfl rfl (fun q => absurd q (by decide)) (fun _ => ?_)
  refine am_B.run (hp := false) (sp := []) 200 rfl ?_
  refine am_B.callV (ci := 2) (n := 1) (as := [.int (nI 0)]) rfl rfl rfl (xt_followAll 0 _ (nI 0) (nI 1) (nI 1) (-1) (fun _ => 0) (o (by decide) h2) (n4_9 hl) (n4_11 hl)) rfl rfl (by exact Nat.le_of_ble_eq_true rfl) rfl (n4_9 hl) rfl rfl (fun v h' z => ?_)
  obtain ⟨rfl, rfl⟩ := z
  rw [n4_s11]
  refine am_B.if_ne rfl rfl (fun _ => ?_) (fun q => absurd q (by decide))
  refine am_B.run (hp := false) (sp := []) 200 rfl ?_
  refine am_B.icmp_ge rfl rfl (fun q => absurd q (by decide)) (fun _ => ?_)
  refine am_B.run (hp := false) (sp := []) 200 rfl ?_
  refine am_B.get rfl rfl rfl (n4_9 hl) rfl rfl ?_
  refine am_B.icmp_ge rfl rfl (fun _ => ?_) (fun q => absurd (by decide) q)
  refine am_B.run (hp := false) (sp := []) 200 rfl ?_
  refine am_B.get rfl rfl rfl (n4_9 hl) rfl rfl ?_
  refine am_B.run (hp := false) (sp := []) 200 rfl ?_
  refine am_B.get rfl rfl rfl (n4_9 hl) rfl rfl ?_
  refine am_B.get rfl rfl rfl (o (by decide) h2) rfl rfl ?_
  refine am_B.callV (ci := 1) (n := 1) (as := [.ref 8]) rfl rfl rfl (xt_codeOf 0 _ 8 (nI 0) (fun _ => 0) (o (by decide) h2)) rfl rfl (by exact Nat.le_of_ble_eq_true rfl) rfl (o (by decide) h2) rfl rfl (fun v h' z => ?_)
  obtain ⟨rfl, rfl⟩ := z
  refine am_B.callV (ci := 2) (n := 1) (as := [.int (nI 0)]) rfl rfl rfl (xt_numberOf 0 _ (nI 1) (-1) _ upd_s (n4_9 hl) (n4_10 hl)) rfl rfl (by exact Nat.le_of_ble_eq_true rfl) rfl (n4_9 hl) rfl rfl (fun v h' z => ?_)
  obtain ⟨rfl, rfl⟩ := z
  refine am_B.put rfl rfl rfl (n4_9 hl) rfl (Nat.le_of_ble_eq_true rfl) rfl (fun q => by cases q) ?_
  rw [n4_s9]
  exact am_B.vret rfl rfl rfl ⟨rfl, rfl⟩
theorem xF_n4 {h : am_H} (X : xF h) : h = n4 h (c_MG (nI 0) 0 0) (z_ 200) (z_ 200) (z_ 2000) := (n4_id X.2.2.2.2.2.2.2.1 X.2.2.2.2.2.2.2.2.1 X.2.2.2.2.2.2.2.2.2.1 X.2.2.2.2.2.2.2.2.2.2.1).symm
theorem xF.explore {h : am_H} (X : xF h) : am_Ct am_G0 m_MG_explore 1 0 0 [.ref 9] h (fun v h' => v = none ∧ h' = hE h) := by
  have := xt_explore h (by have := X.1; omega) X.2.2.1 X.2.2.2.2.2.1 X.2.2.2.2.2.2.1
  rwa [← xF_n4 X] at this
end
section
/-! CALLS of a fresh aligner that don't throw; made from p32's rows -/
set_option maxRecDepth 100000 in
set_option maxHeartbeats 4000000 in
theorem ct_TA_requireMarking (f : Nat) (h : am_H) (k n : Nat) (nb nt ex la : Int32) (hk : k < n) (hn : n < 2 ^ 31) (h1 : h[1]? = some (c_TA nb nt)) (h9 : h[9]? = some (c_MG ex (nI n) la)) : am_Ct am_G0 m_TA_requireMarking f 0 0 [.ref 1, .int (nI k)] h (fun v h' => v = none ∧ h' = h) := by
  refine am_Ct.of (E := E_TA_requireMarking) e_TA_requireMarking (by decide) (Nat.le_of_ble_eq_true rfl) ?_
  refine am_B.run (hp := false) (sp := []) 200 rfl ?_
  refine am_B.if_lt rfl rfl (fun z => absurd z (nI_nlt (Nat.zero_le k) (by omega))) (fun _ => ?_)
  refine am_B.run (hp := false) (sp := []) 200 rfl ?_
  refine am_B.get rfl rfl rfl (by first | assumption | exact gs_s (by first | assumption | exact gs_s (by first | assumption | exact gs_s (by assumption) | (refine gs_n (by decide) ?_; assumption)) | (refine gs_n (by decide) ?_; first | assumption | exact gs_s (by assumption) | (refine gs_n (by decide) ?_; assumption))) | (refine gs_n (by decide) ?_; first | assumption | exact gs_s (by first | assumption | exact gs_s (by assumption) | (refine gs_n (by decide) ?_; assumption)) | (refine gs_n (by decide) ?_; first | assumption | exact gs_s (by assumption) | (refine gs_n (by decide) ?_; assumption)))) rfl rfl ?_
  refine am_B.run (hp := false) (sp := []) 200 rfl ?_
  refine am_B.get rfl rfl rfl (by first | assumption | exact gs_s (by first | assumption | exact gs_s (by first | assumption | exact gs_s (by assumption) | (refine gs_n (by decide) ?_; assumption)) | (refine gs_n (by decide) ?_; first | assumption | exact gs_s (by assumption) | (refine gs_n (by decide) ?_; assumption))) | (refine gs_n (by decide) ?_; first | assumption | exact gs_s (by first | assumption | exact gs_s (by assumption) | (refine gs_n (by decide) ?_; assumption)) | (refine gs_n (by decide) ?_; first | assumption | exact gs_s (by assumption) | (refine gs_n (by decide) ?_; assumption)))) rfl rfl ?_
  refine am_B.run (hp := false) (sp := []) 200 rfl ?_
  refine am_B.icmp_lt rfl rfl (fun _ => ?_) (fun z => absurd (nI_lt hk hn) z)
  refine am_B.run (hp := false) (sp := []) 200 rfl ?_
  exact am_B.vret rfl rfl rfl ⟨rfl, rfl⟩
set_option maxRecDepth 100000 in
set_option maxHeartbeats 4000000 in
theorem ct_TA_requireCost (f : Nat) (h : am_H) (k : Nat) (hk : k ≤ 9) : am_Ct am_G0 m_TA_requireCost f 0 0 [.int (nI k)] h (fun v h' => v = none ∧ h' = h) := by
  refine am_Ct.of (E := E_TA_requireCost) e_TA_requireCost (by decide) (Nat.le_of_ble_eq_true rfl) ?_
  refine am_B.run (hp := false) (sp := []) 200 rfl ?_
  refine am_B.if_lt rfl rfl (fun z => absurd z (nI_nlt (Nat.zero_le k) (by omega))) (fun _ => ?_)
  refine am_B.run (hp := false) (sp := []) 200 rfl ?_
  refine am_B.icmp_le rfl rfl (fun _ => ?_) (fun z => absurd (nI_le hk (by decide)) z)
  refine am_B.run (hp := false) (sp := []) 200 rfl ?_
  exact am_B.vret rfl rfl rfl ⟨rfl, rfl⟩
set_option maxRecDepth 100000 in
set_option maxHeartbeats 4000000 in
theorem ct_TA_isNoLabel (f : Nat) (h : am_H) (k : Nat) (hk : k < 6) : am_Ct am_G0 m_TA_isNoLabel f 0 0 [.int (nI k)] h (fun v h' => v = some (.int (nI 0)) ∧ h' = h) := by
  refine am_Ct.of (E := E_TA_isNoLabel) e_TA_isNoLabel (by decide) (Nat.le_of_ble_eq_true rfl) ?_
  refine am_B.run (hp := false) (sp := []) 200 rfl ?_
  refine am_B.if_lt rfl rfl (fun z => absurd z (nI_nlt (Nat.zero_le k) (by omega))) (fun _ => ?_)
  refine am_B.run (hp := false) (sp := []) 200 rfl ?_
  refine am_B.icmp_lt rfl rfl (fun _ => ?_) (fun z => absurd (nI_lt hk (by decide)) z)
  refine am_B.run (hp := false) (sp := []) 200 rfl ?_
  exact am_B.zret rfl rfl rfl rfl ⟨rfl, rfl⟩
def calm (h : am_H) : Prop := h[27]? = some (ra 4 8 ts_) ∧ (∃ sz la, h[9]? = some (c_MG (nI 0) sz la)) ∧ ∀ i, i < 8 → ∃ sz tm lf wf mf p, h[28 + 3 * i]? = some (c_TR i sz tm (nI 0) lf wf mf p)
set_option maxRecDepth 100000 in
set_option maxHeartbeats 4000000 in
theorem ct_TA_forgetAlignments (f : Nat) (h : am_H) (nb nt : Int32) (h1 : h[1]? = some (c_TA nb nt)) (K : calm h) : am_Ct am_G0 m_TA_forgetAlignments f 0 0 [.ref 1] h (fun v h' => v = none ∧ h' = h) := by
  have h27 := K.1
  refine am_Ct.of (E := E_TA_forgetAlignments) e_TA_forgetAlignments (by decide) (Nat.le_of_ble_eq_true rfl) ?_
  have L : ∀ d i, i + d = 8 → am_B E_TA_forgetAlignments (am_rm f 0 0) (am_ZM E_TA_forgetAlignments 0 0 (fun v h' => v = none ∧ h' = h)) 2 [some (.ref 1), some (.int (nI i))] [] h 0 0 := by
    intro d
    induction d with
    | zero =>
      intro i hi
      refine am_B.run (hp := false) (sp := []) 200 rfl ?_
      refine am_B.icmp_ge rfl rfl (fun _ => ?_) (fun q => absurd (nI_le (by omega) (by omega)) q)
      exact am_B.vret rfl rfl rfl ⟨rfl, rfl⟩
    | succ d ih =>
      intro i hi
      refine am_B.run (hp := false) (sp := []) 200 rfl ?_
      refine am_B.icmp_ge rfl rfl (fun q => absurd q (nI_ge (by omega) (by omega))) (fun _ => ?_)
      refine am_B.run (hp := false) (sp := []) 200 rfl ?_
      refine am_B.get rfl rfl rfl (by first | assumption | exact gs_s (by first | assumption | exact gs_s (by first | assumption | exact gs_s (by assumption) | (refine gs_n (by decide) ?_; assumption)) | (refine gs_n (by decide) ?_; first | assumption | exact gs_s (by assumption) | (refine gs_n (by decide) ?_; assumption))) | (refine gs_n (by decide) ?_; first | assumption | exact gs_s (by first | assumption | exact gs_s (by assumption) | (refine gs_n (by decide) ?_; assumption)) | (refine gs_n (by decide) ?_; first | assumption | exact gs_s (by assumption) | (refine gs_n (by decide) ?_; assumption)))) rfl rfl ?_
      refine am_B.run (hp := false) (sp := []) 200 rfl ?_
      refine am_B.ald rfl h27 (vp_n (show i < 8 by omega) rfl) (ts_get (show i < 8 by omega)) ?_
      refine am_B.run (hp := false) (sp := []) 200 rfl ?_
      obtain ⟨sz, tm, lf, wf, mf, p, hti⟩ := K.2.2 i (by omega)
      refine am_B.put rfl rfl rfl hti rfl (Nat.le_of_ble_eq_true rfl) rfl (fun q => by cases q) ?_
      have e : h.set (28 + 3 * i) (c_TR i sz tm (nI 0) lf wf mf p) = h := gs_id hti
      show am_B _ _ _ _ _ _ (h.set (28 + 3 * i) (c_TR i sz tm (nI 0) lf wf mf p)) _ _
      rw [e]
      refine am_B.run (hp := false) (sp := [2]) 200 rfl ?_
      rw [nI_add]
      exact ih (i + 1) (by omega)
  refine am_B.run (hp := false) (sp := [2]) 200 rfl ?_
  exact L 8 0 (by omega)
set_option maxRecDepth 100000 in
set_option maxHeartbeats 4000000 in
theorem ct_TA_forgetMarkings (h : am_H) (nb nt : Int32) (h1 : h[1]? = some (c_TA nb nt)) (K : calm h) : am_Ct am_G0 m_TA_forgetMarkings 1 0 0 [.ref 1] h (fun v h' => v = none ∧ h' = h) := by
  obtain ⟨sz, la, h9⟩ := K.2.1
  refine am_Ct.of (E := E_TA_forgetMarkings) e_TA_forgetMarkings (by decide) (Nat.le_of_ble_eq_true rfl) ?_
  refine am_B.run (hp := false) (sp := []) 200 rfl ?_
  refine am_B.get rfl rfl rfl (by first | assumption | exact gs_s (by first | assumption | exact gs_s (by first | assumption | exact gs_s (by assumption) | (refine gs_n (by decide) ?_; assumption)) | (refine gs_n (by decide) ?_; first | assumption | exact gs_s (by assumption) | (refine gs_n (by decide) ?_; assumption))) | (refine gs_n (by decide) ?_; first | assumption | exact gs_s (by first | assumption | exact gs_s (by assumption) | (refine gs_n (by decide) ?_; assumption)) | (refine gs_n (by decide) ?_; first | assumption | exact gs_s (by assumption) | (refine gs_n (by decide) ?_; assumption)))) rfl rfl ?_
  refine am_B.run (hp := false) (sp := []) 200 rfl ?_
  refine am_B.put rfl rfl rfl (by first | assumption | exact gs_s (by first | assumption | exact gs_s (by first | assumption | exact gs_s (by assumption) | (refine gs_n (by decide) ?_; assumption)) | (refine gs_n (by decide) ?_; first | assumption | exact gs_s (by assumption) | (refine gs_n (by decide) ?_; assumption))) | (refine gs_n (by decide) ?_; first | assumption | exact gs_s (by first | assumption | exact gs_s (by assumption) | (refine gs_n (by decide) ?_; assumption)) | (refine gs_n (by decide) ?_; first | assumption | exact gs_s (by assumption) | (refine gs_n (by decide) ?_; assumption)))) rfl (Nat.le_of_ble_eq_true rfl) rfl (fun q => by cases q) ?_
  have e : h.set 9 (c_MG (nI 0) sz la) = h := gs_id h9
  show am_B _ _ _ _ _ _ (h.set 9 (c_MG (nI 0) sz la)) _ _
  rw [e]
  refine am_B.run (hp := false) (sp := []) 200 rfl ?_
  refine am_B.callV (ci := 0) (n := 0) (as := []) rfl rfl rfl (ct_TA_forgetAlignments 0 h nb nt h1 K) rfl rfl (by exact Nat.le_of_ble_eq_true rfl) rfl h1 rfl rfl (fun v h' z => ?_)
  obtain ⟨rfl, rfl⟩ := z
  exact am_B.vret rfl rfl rfl ⟨rfl, rfl⟩
set_option maxRecDepth 100000 in
set_option maxHeartbeats 4000000 in
theorem ct_NT_appendPlace (f : Nat) (h : am_H) (P : Nat) (tc : Int32) (h2 : h[2]? = some (c_NT (nI P) tc)) : am_Ct am_G0 m_NT_appendPlace f 0 0 [.ref 2] h (fun v h' => v = some (.int (nI P)) ∧ h' = h.set 2 (c_NT (nI (P + 1)) tc)) := by
  refine am_Ct.of (E := E_NT_appendPlace) e_NT_appendPlace (by decide) (Nat.le_of_ble_eq_true rfl) ?_
  refine am_B.run (hp := false) (sp := []) 200 rfl ?_
  refine am_B.get rfl rfl rfl (by first | assumption | exact gs_s (by first | assumption | exact gs_s (by first | assumption | exact gs_s (by assumption) | (refine gs_n (by decide) ?_; assumption)) | (refine gs_n (by decide) ?_; first | assumption | exact gs_s (by assumption) | (refine gs_n (by decide) ?_; assumption))) | (refine gs_n (by decide) ?_; first | assumption | exact gs_s (by first | assumption | exact gs_s (by assumption) | (refine gs_n (by decide) ?_; assumption)) | (refine gs_n (by decide) ?_; first | assumption | exact gs_s (by assumption) | (refine gs_n (by decide) ?_; assumption)))) rfl rfl ?_
  refine am_B.run (hp := false) (sp := []) 200 rfl ?_
  refine am_B.put rfl rfl rfl (by first | assumption | exact gs_s (by first | assumption | exact gs_s (by first | assumption | exact gs_s (by assumption) | (refine gs_n (by decide) ?_; assumption)) | (refine gs_n (by decide) ?_; first | assumption | exact gs_s (by assumption) | (refine gs_n (by decide) ?_; assumption))) | (refine gs_n (by decide) ?_; first | assumption | exact gs_s (by first | assumption | exact gs_s (by assumption) | (refine gs_n (by decide) ?_; assumption)) | (refine gs_n (by decide) ?_; first | assumption | exact gs_s (by assumption) | (refine gs_n (by decide) ?_; assumption)))) rfl (Nat.le_of_ble_eq_true rfl) rfl (fun q => by cases q) ?_
  show am_B _ _ _ _ _ _ (h.set 2 (c_NT (nI P + nI 1) tc)) _ _
  rw [nI_add]
  refine am_B.run (hp := false) (sp := []) 200 rfl ?_
  refine am_B.get rfl rfl rfl (gs_s h2) rfl rfl ?_
  refine am_B.run (hp := false) (sp := []) 200 rfl ?_
  exact am_B.iret rfl rfl rfl ⟨by rw [nI_prd], rfl⟩
set_option maxRecDepth 100000 in
set_option maxHeartbeats 4000000 in
theorem ct_TA_addPlace (h : am_H) (P : Nat) (nb nt tc : Int32) (hP : P < 8) (h1 : h[1]? = some (c_TA nb nt)) (h2 : h[2]? = some (c_NT (nI P) tc)) (K : calm h) : am_Ct am_G0 m_TA_addPlace 2 0 0 [.ref 1] h (fun v h' => v = some (.int (nI P)) ∧ h' = h.set 2 (c_NT (nI (P + 1)) tc)) := by
  refine am_Ct.of (E := E_TA_addPlace) e_TA_addPlace (by decide) (Nat.le_of_ble_eq_true rfl) ?_
  refine am_B.run (hp := false) (sp := []) 200 rfl ?_
  refine am_B.get rfl rfl rfl (by first | assumption | exact gs_s (by first | assumption | exact gs_s (by first | assumption | exact gs_s (by assumption) | (refine gs_n (by decide) ?_; assumption)) | (refine gs_n (by decide) ?_; first | assumption | exact gs_s (by assumption) | (refine gs_n (by decide) ?_; assumption))) | (refine gs_n (by decide) ?_; first | assumption | exact gs_s (by first | assumption | exact gs_s (by assumption) | (refine gs_n (by decide) ?_; assumption)) | (refine gs_n (by decide) ?_; first | assumption | exact gs_s (by assumption) | (refine gs_n (by decide) ?_; assumption)))) rfl rfl ?_
  refine am_B.run (hp := false) (sp := []) 200 rfl ?_
  refine am_B.get rfl rfl rfl (by first | assumption | exact gs_s (by first | assumption | exact gs_s (by first | assumption | exact gs_s (by assumption) | (refine gs_n (by decide) ?_; assumption)) | (refine gs_n (by decide) ?_; first | assumption | exact gs_s (by assumption) | (refine gs_n (by decide) ?_; assumption))) | (refine gs_n (by decide) ?_; first | assumption | exact gs_s (by first | assumption | exact gs_s (by assumption) | (refine gs_n (by decide) ?_; assumption)) | (refine gs_n (by decide) ?_; first | assumption | exact gs_s (by assumption) | (refine gs_n (by decide) ?_; assumption)))) rfl rfl ?_
  refine am_B.run (hp := false) (sp := []) 200 rfl ?_
  refine am_B.icmp_lt rfl rfl (fun _ => ?_) (fun z => absurd (nI_lt hP (by decide)) z)
  refine am_B.run (hp := false) (sp := []) 200 rfl ?_
  refine am_B.callV (ci := 0) (n := 0) (as := []) rfl rfl rfl (ct_TA_forgetMarkings h nb nt h1 K) rfl rfl (by exact Nat.le_of_ble_eq_true rfl) rfl h1 rfl rfl (fun v h' z => ?_)
  obtain ⟨rfl, rfl⟩ := z
  refine am_B.run (hp := false) (sp := []) 200 rfl ?_
  refine am_B.get rfl rfl rfl (by first | assumption | exact gs_s (by first | assumption | exact gs_s (by first | assumption | exact gs_s (by assumption) | (refine gs_n (by decide) ?_; assumption)) | (refine gs_n (by decide) ?_; first | assumption | exact gs_s (by assumption) | (refine gs_n (by decide) ?_; assumption))) | (refine gs_n (by decide) ?_; first | assumption | exact gs_s (by first | assumption | exact gs_s (by assumption) | (refine gs_n (by decide) ?_; assumption)) | (refine gs_n (by decide) ?_; first | assumption | exact gs_s (by assumption) | (refine gs_n (by decide) ?_; assumption)))) rfl rfl ?_
  refine am_B.run (hp := false) (sp := []) 200 rfl ?_
  refine am_B.callV (ci := 1) (n := 0) (as := []) rfl rfl rfl (ct_NT_appendPlace 0 _ P tc h2) rfl rfl (by exact Nat.le_of_ble_eq_true rfl) rfl h2 rfl rfl (fun v h' z => ?_)
  obtain ⟨rfl, rfl⟩ := z
  refine am_B.run (hp := false) (sp := []) 200 rfl ?_
  exact am_B.iret rfl rfl rfl ⟨rfl, rfl⟩
set_option maxRecDepth 100000 in
set_option maxHeartbeats 4000000 in
theorem ct_NT_appendTransition (f : Nat) (h : am_H) (T : Nat) (pc x : Int32) (gl gco : Nat → Int32) (hT : T < 10) (h2 : h[2]? = some (c_NT pc (nI T))) (h3 : h[3]? = some (ia 10 gl)) (h4 : h[4]? = some (ia 10 gco)) : am_Ct am_G0 m_NT_appendTransition f 0 0 [.ref 2, .int x] h (fun v h' => v = some (.int (nI T)) ∧
    h' = ((h.set 3 (ia 10 (upd gl T x))).set 4 (ia 10 (upd gco T (if x = -1 then nI 0 else nI 1)))).set 2 (c_NT pc (nI (T + 1)))) := by
  refine am_Ct.of (E := E_NT_appendTransition) e_NT_appendTransition (by decide) (Nat.le_of_ble_eq_true rfl) ?_
  refine am_B.run (hp := false) (sp := []) 200 rfl ?_
  refine am_B.get rfl rfl rfl (by first | assumption | exact gs_s (by first | assumption | exact gs_s (by first | assumption | exact gs_s (by assumption) | (refine gs_n (by decide) ?_; assumption)) | (refine gs_n (by decide) ?_; first | assumption | exact gs_s (by assumption) | (refine gs_n (by decide) ?_; assumption))) | (refine gs_n (by decide) ?_; first | assumption | exact gs_s (by first | assumption | exact gs_s (by assumption) | (refine gs_n (by decide) ?_; assumption)) | (refine gs_n (by decide) ?_; first | assumption | exact gs_s (by assumption) | (refine gs_n (by decide) ?_; assumption)))) rfl rfl ?_
  refine am_B.run (hp := false) (sp := []) 200 rfl ?_
  refine am_B.get rfl rfl rfl (by first | assumption | exact gs_s (by first | assumption | exact gs_s (by first | assumption | exact gs_s (by assumption) | (refine gs_n (by decide) ?_; assumption)) | (refine gs_n (by decide) ?_; first | assumption | exact gs_s (by assumption) | (refine gs_n (by decide) ?_; assumption))) | (refine gs_n (by decide) ?_; first | assumption | exact gs_s (by first | assumption | exact gs_s (by assumption) | (refine gs_n (by decide) ?_; assumption)) | (refine gs_n (by decide) ?_; first | assumption | exact gs_s (by assumption) | (refine gs_n (by decide) ?_; assumption)))) rfl rfl ?_
  refine am_B.run (hp := false) (sp := []) 200 rfl ?_
  refine am_B.ast rfl h3 (vp_n hT rfl) rfl ?_
  rw [nI_clamp (show T < 2 ^ 31 by omega)]
  refine am_B.run (hp := false) (sp := []) 200 rfl ?_
  refine am_B.get rfl rfl rfl (by first | assumption | exact gs_s (by first | assumption | exact gs_s (by first | assumption | exact gs_s (by assumption) | (refine gs_n (by decide) ?_; assumption)) | (refine gs_n (by decide) ?_; first | assumption | exact gs_s (by assumption) | (refine gs_n (by decide) ?_; assumption))) | (refine gs_n (by decide) ?_; first | assumption | exact gs_s (by first | assumption | exact gs_s (by assumption) | (refine gs_n (by decide) ?_; assumption)) | (refine gs_n (by decide) ?_; first | assumption | exact gs_s (by assumption) | (refine gs_n (by decide) ?_; assumption)))) rfl rfl ?_
  refine am_B.run (hp := false) (sp := []) 200 rfl ?_
  refine am_B.get rfl rfl rfl (by first | assumption | exact gs_s (by first | assumption | exact gs_s (by first | assumption | exact gs_s (by assumption) | (refine gs_n (by decide) ?_; assumption)) | (refine gs_n (by decide) ?_; first | assumption | exact gs_s (by assumption) | (refine gs_n (by decide) ?_; assumption))) | (refine gs_n (by decide) ?_; first | assumption | exact gs_s (by first | assumption | exact gs_s (by assumption) | (refine gs_n (by decide) ?_; assumption)) | (refine gs_n (by decide) ?_; first | assumption | exact gs_s (by assumption) | (refine gs_n (by decide) ?_; assumption)))) rfl rfl ?_
  refine am_B.run (hp := false) (sp := []) 200 rfl ?_
  have J28 : ∀ c : Int32, c = (if x = -1 then nI 0 else nI 1) → am_B E_NT_appendTransition (am_rm f 0 0) (am_ZM E_NT_appendTransition 0 0 (fun v h' => v = some (.int (nI T)) ∧ h' = ((h.set 3 (ia 10 (upd gl T x))).set 4 (ia 10 (upd gco T (if x = -1 then nI 0 else nI 1)))).set 2 (c_NT pc (nI (T + 1)))))
      28 [some (.ref 2), some (.int x)] [.int c, .int (nI T), .ref 4] (h.set 3 (ia 10 (upd gl T x))) 0 0 := by
    intro c hc
    refine am_B.ast rfl (gs_n (by decide) h4) (vp_n hT rfl) rfl ?_
    rw [nI_clamp (show T < 2 ^ 31 by omega), hc]
    refine am_B.run (hp := false) (sp := []) 200 rfl ?_
    refine am_B.get rfl rfl rfl (by first | assumption | exact gs_s (by first | assumption | exact gs_s (by first | assumption | exact gs_s (by assumption) | (refine gs_n (by decide) ?_; assumption)) | (refine gs_n (by decide) ?_; first | assumption | exact gs_s (by assumption) | (refine gs_n (by decide) ?_; assumption))) | (refine gs_n (by decide) ?_; first | assumption | exact gs_s (by first | assumption | exact gs_s (by assumption) | (refine gs_n (by decide) ?_; assumption)) | (refine gs_n (by decide) ?_; first | assumption | exact gs_s (by assumption) | (refine gs_n (by decide) ?_; assumption)))) rfl rfl ?_
    refine am_B.run (hp := false) (sp := []) 200 rfl ?_
    refine am_B.put rfl rfl rfl (by first | assumption | exact gs_s (by first | assumption | exact gs_s (by first | assumption | exact gs_s (by assumption) | (refine gs_n (by decide) ?_; assumption)) | (refine gs_n (by decide) ?_; first | assumption | exact gs_s (by assumption) | (refine gs_n (by decide) ?_; assumption))) | (refine gs_n (by decide) ?_; first | assumption | exact gs_s (by first | assumption | exact gs_s (by assumption) | (refine gs_n (by decide) ?_; assumption)) | (refine gs_n (by decide) ?_; first | assumption | exact gs_s (by assumption) | (refine gs_n (by decide) ?_; assumption)))) rfl (Nat.le_of_ble_eq_true rfl) rfl (fun q => by cases q) ?_
    show am_B _ _ _ _ _ _ (((h.set 3 (ia 10 (upd gl T x))).set 4 (ia 10 (upd gco T (if x = -1 then nI 0 else nI 1)))).set 2 (c_NT pc (nI T + nI 1))) _ _
    rw [nI_add]
    refine am_B.run (hp := false) (sp := []) 200 rfl ?_
    refine am_B.get rfl rfl rfl (gs_s (gs_n (by decide) (gs_n (by decide) h2))) rfl rfl ?_
    refine am_B.run (hp := false) (sp := []) 200 rfl ?_
    exact am_B.iret rfl rfl rfl ⟨by rw [nI_prd], rfl⟩
  refine am_B.icmp_ne rfl rfl (fun z => ?_) (fun z => ?_)
  · refine am_B.run (hp := false) (sp := [28]) 200 rfl ?_
    exact J28 _ (by rw [if_neg z])
  · refine am_B.run (hp := false) (sp := [28]) 200 rfl ?_
    exact J28 _ (by rw [if_pos z])
set_option maxRecDepth 100000 in
set_option maxHeartbeats 4000000 in
theorem ct_TA_addTransition (h : am_H) (T : Nat) (nb nt pc x : Int32) (gl gco : Nat → Int32) (hT : T < 10) (hx : x = -1 ∨ ∃ l, l < 6 ∧ x = nI l) (h1 : h[1]? = some (c_TA nb nt)) (h2 : h[2]? = some (c_NT pc (nI T))) (h3 : h[3]? = some (ia 10 gl)) (h4 : h[4]? = some (ia 10 gco)) (K : calm h) : am_Ct am_G0 m_TA_addTransition 2 0 0 [.ref 1, .int x] h (fun v h' => v = some (.int (nI T)) ∧
    h' = ((h.set 3 (ia 10 (upd gl T x))).set 4 (ia 10 (upd gco T (if x = -1 then nI 0 else nI 1)))).set 2 (c_NT pc (nI (T + 1)))) := by
  refine am_Ct.of (E := E_TA_addTransition) e_TA_addTransition (by decide) (Nat.le_of_ble_eq_true rfl) ?_
  have J22 : am_B E_TA_addTransition (am_rm 2 0 0) (am_ZM E_TA_addTransition 0 0 (fun v h' => v = some (.int (nI T)) ∧ h' = ((h.set 3 (ia 10 (upd gl T x))).set 4 (ia 10 (upd gco T (if x = -1 then nI 0 else nI 1)))).set 2 (c_NT pc (nI (T + 1)))))
      22 [some (.ref 1), some (.int x)] [] h 0 0 := by
    refine am_B.run (hp := false) (sp := []) 200 rfl ?_
    refine am_B.get rfl rfl rfl (by first | assumption | exact gs_s (by first | assumption | exact gs_s (by first | assumption | exact gs_s (by assumption) | (refine gs_n (by decide) ?_; assumption)) | (refine gs_n (by decide) ?_; first | assumption | exact gs_s (by assumption) | (refine gs_n (by decide) ?_; assumption))) | (refine gs_n (by decide) ?_; first | assumption | exact gs_s (by first | assumption | exact gs_s (by assumption) | (refine gs_n (by decide) ?_; assumption)) | (refine gs_n (by decide) ?_; first | assumption | exact gs_s (by assumption) | (refine gs_n (by decide) ?_; assumption)))) rfl rfl ?_
    refine am_B.run (hp := false) (sp := []) 200 rfl ?_
    refine am_B.get rfl rfl rfl (by first | assumption | exact gs_s (by first | assumption | exact gs_s (by first | assumption | exact gs_s (by assumption) | (refine gs_n (by decide) ?_; assumption)) | (refine gs_n (by decide) ?_; first | assumption | exact gs_s (by assumption) | (refine gs_n (by decide) ?_; assumption))) | (refine gs_n (by decide) ?_; first | assumption | exact gs_s (by first | assumption | exact gs_s (by assumption) | (refine gs_n (by decide) ?_; assumption)) | (refine gs_n (by decide) ?_; first | assumption | exact gs_s (by assumption) | (refine gs_n (by decide) ?_; assumption)))) rfl rfl ?_
    refine am_B.run (hp := false) (sp := []) 200 rfl ?_
    refine am_B.icmp_lt rfl rfl (fun _ => ?_) (fun z => absurd (nI_lt hT (by decide)) z)
    refine am_B.run (hp := false) (sp := []) 200 rfl ?_
    refine am_B.callV (ci := 0) (n := 0) (as := []) rfl rfl rfl (ct_TA_forgetMarkings h nb nt h1 K) rfl rfl (by exact Nat.le_of_ble_eq_true rfl) rfl h1 rfl rfl (fun v h' z => ?_)
    obtain ⟨rfl, rfl⟩ := z
    refine am_B.run (hp := false) (sp := []) 200 rfl ?_
    refine am_B.get rfl rfl rfl (by first | assumption | exact gs_s (by first | assumption | exact gs_s (by first | assumption | exact gs_s (by assumption) | (refine gs_n (by decide) ?_; assumption)) | (refine gs_n (by decide) ?_; first | assumption | exact gs_s (by assumption) | (refine gs_n (by decide) ?_; assumption))) | (refine gs_n (by decide) ?_; first | assumption | exact gs_s (by first | assumption | exact gs_s (by assumption) | (refine gs_n (by decide) ?_; assumption)) | (refine gs_n (by decide) ?_; first | assumption | exact gs_s (by assumption) | (refine gs_n (by decide) ?_; assumption)))) rfl rfl ?_
    refine am_B.run (hp := false) (sp := []) 200 rfl ?_
    refine am_B.callV (ci := 1) (n := 1) (as := [.int x]) rfl rfl rfl (ct_NT_appendTransition 0 _ T pc x gl gco hT h2 h3 h4) rfl rfl (by exact Nat.le_of_ble_eq_true rfl) rfl h2 rfl rfl (fun v h' z => ?_)
    obtain ⟨rfl, rfl⟩ := z
    refine am_B.run (hp := false) (sp := []) 200 rfl ?_
    exact am_B.iret rfl rfl rfl ⟨rfl, rfl⟩
  refine am_B.run (hp := false) (sp := []) 200 rfl ?_
  refine am_B.icmp_eq rfl rfl (fun z => J22) (fun z => ?_)
  obtain ⟨l, hl, rfl⟩ := hx.resolve_left z
  refine am_B.run (hp := false) (sp := []) 200 rfl ?_
  refine am_B.callS (n := 1) (as := [.int (nI l)]) rfl rfl rfl (ct_TA_isNoLabel 0 _ l hl) rfl rfl (by exact Nat.le_of_ble_eq_true rfl) rfl rfl rfl (fun v h' q => ?_)
  obtain ⟨rfl, rfl⟩ := q
  refine am_B.run (hp := false) (sp := []) 200 rfl ?_
  refine am_B.if_eq rfl rfl (fun _ => J22) (fun z => absurd rfl z)
set_option maxRecDepth 100000 in
theorem de_count : decode m_TA_count.2.1 1 = .ok (.tableswitch 48 0 2 #[27, 35, 43], 27) := by decide +kernel
set_option maxRecDepth 100000 in
set_option maxHeartbeats 4000000 in
theorem ct_TA_count (f : Nat) (h : am_H) (k : Nat) (nb nt pc tc : Int32) (hk : k < 3) (h1 : h[1]? = some (c_TA nb nt)) (h2 : h[2]? = some (c_NT pc tc)) : am_Ct am_G0 m_TA_count f 0 0 [.ref 1, .int (nI k)] h (fun v h' => h' = h ∧ v = some (.int (if k = 0 then pc else if k = 1 then tc else nt))) := by
  have hd := de_count
  refine am_Ct.of (E := E_TA_count) e_TA_count (by decide) (Nat.le_of_ble_eq_true rfl) ?_
  refine am_B.run (hp := false) (sp := [1]) 200 rfl ?_
  obtain rfl | rfl | rfl : k = 0 ∨ k = 1 ∨ k = 2 := by omega
  · refine am_B.tswIn (tgt := 28) hd (by decide) (by decide) rfl rfl ?_
    refine am_B.run (hp := false) (sp := []) 200 rfl ?_
    refine am_B.get rfl rfl rfl (by first | assumption | exact gs_s (by first | assumption | exact gs_s (by first | assumption | exact gs_s (by assumption) | (refine gs_n (by decide) ?_; assumption)) | (refine gs_n (by decide) ?_; first | assumption | exact gs_s (by assumption) | (refine gs_n (by decide) ?_; assumption))) | (refine gs_n (by decide) ?_; first | assumption | exact gs_s (by first | assumption | exact gs_s (by assumption) | (refine gs_n (by decide) ?_; assumption)) | (refine gs_n (by decide) ?_; first | assumption | exact gs_s (by assumption) | (refine gs_n (by decide) ?_; assumption)))) rfl rfl ?_
    refine am_B.run (hp := false) (sp := []) 200 rfl ?_
    refine am_B.get rfl rfl rfl (by first | assumption | exact gs_s (by first | assumption | exact gs_s (by first | assumption | exact gs_s (by assumption) | (refine gs_n (by decide) ?_; assumption)) | (refine gs_n (by decide) ?_; first | assumption | exact gs_s (by assumption) | (refine gs_n (by decide) ?_; assumption))) | (refine gs_n (by decide) ?_; first | assumption | exact gs_s (by first | assumption | exact gs_s (by assumption) | (refine gs_n (by decide) ?_; assumption)) | (refine gs_n (by decide) ?_; first | assumption | exact gs_s (by assumption) | (refine gs_n (by decide) ?_; assumption)))) rfl rfl ?_
    exact am_B.iret rfl rfl rfl ⟨rfl, rfl⟩
  · refine am_B.tswIn (tgt := 36) hd (by decide) (by decide) rfl rfl ?_
    refine am_B.run (hp := false) (sp := []) 200 rfl ?_
    refine am_B.get rfl rfl rfl (by first | assumption | exact gs_s (by first | assumption | exact gs_s (by first | assumption | exact gs_s (by assumption) | (refine gs_n (by decide) ?_; assumption)) | (refine gs_n (by decide) ?_; first | assumption | exact gs_s (by assumption) | (refine gs_n (by decide) ?_; assumption))) | (refine gs_n (by decide) ?_; first | assumption | exact gs_s (by first | assumption | exact gs_s (by assumption) | (refine gs_n (by decide) ?_; assumption)) | (refine gs_n (by decide) ?_; first | assumption | exact gs_s (by assumption) | (refine gs_n (by decide) ?_; assumption)))) rfl rfl ?_
    refine am_B.run (hp := false) (sp := []) 200 rfl ?_
    refine am_B.get rfl rfl rfl (by first | assumption | exact gs_s (by first | assumption | exact gs_s (by first | assumption | exact gs_s (by assumption) | (refine gs_n (by decide) ?_; assumption)) | (refine gs_n (by decide) ?_; first | assumption | exact gs_s (by assumption) | (refine gs_n (by decide) ?_; assumption))) | (refine gs_n (by decide) ?_; first | assumption | exact gs_s (by first | assumption | exact gs_s (by assumption) | (refine gs_n (by decide) ?_; assumption)) | (refine gs_n (by decide) ?_; first | assumption | exact gs_s (by assumption) | (refine gs_n (by decide) ?_; assumption)))) rfl rfl ?_
    exact am_B.iret rfl rfl rfl ⟨rfl, rfl⟩
  · refine am_B.tswIn (tgt := 44) hd (by decide) (by decide) rfl rfl ?_
    refine am_B.run (hp := false) (sp := []) 200 rfl ?_
    refine am_B.get rfl rfl rfl (by first | assumption | exact gs_s (by first | assumption | exact gs_s (by first | assumption | exact gs_s (by assumption) | (refine gs_n (by decide) ?_; assumption)) | (refine gs_n (by decide) ?_; first | assumption | exact gs_s (by assumption) | (refine gs_n (by decide) ?_; assumption))) | (refine gs_n (by decide) ?_; first | assumption | exact gs_s (by first | assumption | exact gs_s (by assumption) | (refine gs_n (by decide) ?_; assumption)) | (refine gs_n (by decide) ?_; first | assumption | exact gs_s (by assumption) | (refine gs_n (by decide) ?_; assumption)))) rfl rfl ?_
    exact am_B.iret rfl rfl rfl ⟨rfl, rfl⟩

theorem am_B.copy {E : am_E} {R : Room} {Z : am_Z} {pc : Nat} {lo : am_L} {st : List Value} {h : am_H} {rc rs : Nat} {r : am_Row} {i a0 a1 n0 n1 n : Nat} {f g : Nat → Int32} (hf : am_find E.2.2.2 pc = some r) (hi : r.2.1 = .invokestatic i) (hw1 : Jvm.Cond.methodLink E.2.2.1.1.cls i arraycopyName ∈ E.1.2) (hw2 : Jvm.Cond.native arraycopyName ∈ E.1.2) (hw3 : Jvm.Cond.static arraycopyName ∈ E.1.2) (hw4 : Jvm.Cond.initialized "java/lang/System" ∈ E.1.2)
    (ha0 : h[a0]? = some (.inl (0, n0, .inl f))) (ha1 : h[a1]? = some (.inl (0, n1, .inl g))) (hn0 : n ≤ n0) (hn1 : n ≤ n1) (hn : n < 2 ^ 31) (hw : am_wd st ≤ 8) (hR1 : (Nat.ble 1 R.frames && Nat.ble 30 R.locals) = true)
    (k : am_B E R Z (pc + 3) lo st (h.set a1 (.inl (0, n1, .inl (va_cpy f g 0 0 n)))) rc rs) : am_B E R Z pc lo (.int (nI n) :: .int (nI 0) :: .ref a1 :: .int (nI 0) :: .ref a0 :: st) h rc rs := by
  intro ok l D cA sb base p e s m args below meth c C H locs cells slots ls hR hS h1 h2 hl
  have K := fun H1 l1 q1 q2 => k ok l D cA sb base p e s m args below meth c C H1 l1 cells slots ls q1 q2 h1 h2 hl
  obtain ⟨hm0, rfl⟩ := am_find_ok hf
  obtain ⟨hd, -, -⟩ := ok.2.2 r hm0
  obtain ⟨hx, hb, hml, hret, hown, hts, hK, hlk, hnm⟩ := C
  rw [hi] at hd
  have hc0 := am_at_i (hR.2.2.2 a0 _ ha0) (by decide)
  have hc1 := am_at_i (hR.2.2.2 a1 _ ha1) (by decide)
  obtain ⟨-, k0, hk0, cm0, hkk0⟩ := (hK.2.1 0 .int rfl rfl).1 n0 (fun j => .int (f j))
  obtain ⟨-, k1, hk1, cm1, hkk1⟩ := (hK.2.1 0 .int rfl rfl).1 n1 (fun j => .int (g j))
  have a0' : a1 ≠ 0 := by
    rintro rfl
    obtain ⟨x, hx⟩ := hR.2.2.1
    rw [hx] at ha1
    cases ha1
  have aB : base ≤ am_ad sb base a1 := by
    obtain ⟨j, rfl⟩ : ∃ j, a1 = j + 1 := ⟨a1 - 1, by omega⟩
    exact am_ad_ge
  have hz : (nI 0).toInt = 0 := nI_toInt (by decide)
  have hnn := nI_toInt hn
  have hcn := nI_clamp hn
  have hc00 : (nI 0).toNatClampNeg = 0 := nI_clamp (by decide)
  simp only [Bool.and_eq_true] at hR1
  have hR2 := Nat.le_of_ble_eq_true hR1.1
  have hR3 := Nat.le_of_ble_eq_true hR1.2
  intro T hT X
  obtain ⟨vm', X', step⟩ := X.arraycopy hx hown (hts _ hw1) (hts _ hw2) (hts _ hw3) (hts _ hw4) (src := am_ad sb base a0) (dst := am_ad sb base a1) (cs := arrV (cA 0) n0 (fun j => .int (f j))) (cd := arrV (cA 0) n1 (fun j => .int (g j))) (srcPos := nI 0) (destPos := nI 0) (n := nI n) (by rw [hT]; exact hc0) (by rw [hT]; exact hc1)
    (fun _ h => by cases h) (fun _ h => by cases h) (fun h => by cases h) (fun h => by cases h) hk0 hk1 hkk0 hkk1 (by simp [refKind]) (nI_nlt (Nat.le_refl _) (by decide)) (nI_nlt (Nat.le_refl _) (by decide)) (nI_nlt (Nat.zero_le _) hn)
    (by rw [hz, hnn, arrV_size]; omega)
    (by rw [hz, hnn, arrV_size]; omega)
    (fun vm₁ _ i hi => by
      have e : (arrV (cA 0) n0 (fun j => .int (f j))).slots.getD ((nI 0).toNatClampNeg + i) .null = .int (f ((nI 0).toNatClampNeg + i)) := by
        rw [Array.getD_eq_getD_getElem?, arrV_read _ _ (by rw [hcn] at hi; rw [hc00]; omega)]
        rfl
      refine ⟨?_, ?_⟩
      · rw [e]
        rfl
      · rw [e]
        exact trivial)
    (g := F0 m r.1 ls (.int (nI n) :: .int (nI 0) :: .ref (am_ad sb base a1) :: .int (nI 0) :: .ref (am_ad sb base a0) :: st.map (am_cv sb base))) rfl (by rw [hml]; exact hl.2.1) (rest := st.map (am_cv sb base)) rfl (by rw [hb]; exact hd) hR2 (by
      show 2 * 0 + _ + _ ≤ _
      rw [am_wd_cv]
      have : nativeFrameWords "java/lang/System" "arraycopy" 5 = 7 := by decide
      omega)
  have e1 : copied (arrV (cA 0) n0 (fun j => .int (f j))) (arrV (cA 0) n1 (fun j => .int (g j))) (nI 0) (nI 0) (nI n) = arrV (cA 0) n1 (fun j => .int (va_cpy f g 0 0 n j)) := by
    have := va_copied (fun z => Value.int z) (cA 0) (cA 0) (n0 := n0) (n1 := n1) (sp := (nI 0).toNatClampNeg) (dp := (nI 0).toNatClampNeg) (n := (nI n).toNatClampNeg) f g (by rw [hcn, hc00]; omega)
    rw [hcn, hc00] at this
    show _ = _
    unfold copied
    rw [hcn, hc00]
    exact this
  rw [e1] at X' step
  have hlt : am_ad sb base a1 < H.size := (Array.getElem?_eq_some_iff.mp hc1).1
  have hheap : ((T.setVm vm').setCell (am_ad sb base a1) (arrV (cA 0) n1 (fun j => .int (va_cpy f g 0 0 n j)))).heap = H.setIfInBounds (am_ad sb base a1) (arrV (cA 0) n1 (fun j => .int (va_cpy f g 0 0 n j))) := by rw [← hT]; rfl
  have oq : ∀ q : Nat, q ≠ am_ad sb base a1 → (H.setIfInBounds (am_ad sb base a1) (arrV (cA 0) n1 (fun j => .int (va_cpy f g 0 0 n j))))[q]? = H[q]? := fun q hq => by simp [Array.getElem?_setIfInBounds, Ne.symm hq]
  have hset : (H.setIfInBounds (am_ad sb base a1) (arrV (cA 0) n1 (fun j => .int (va_cpy f g 0 0 n j))))[am_ad sb base a1]? = some (arrV (cA 0) n1 (fun j => .int (va_cpy f g 0 0 n j))) := by simp [Array.getElem?_setIfInBounds, hlt]
  obtain ⟨t, a1', b1⟩ := K _ _ (hR.set ha1 (by simp) oq a0' (am_mk_i (by decide) hset)) ⟨by simp; exact hS.1, fun q g1 g2 => by
      rw [oq q (fun e => g2 (by rw [e]; exact aB))]
      exact hS.2.1 q g1 g2, fun q hq => by
      rcases List.mem_append.mp hq with h | h
      · exact hS.2.2 q h
      · obtain ⟨z, -, hz⟩ := List.mem_map.mp h
        rw [← hz]
        exact aB⟩ _ hheap X'
  exact ⟨t, step t a1', b1⟩
set_option maxRecDepth 100000 in
set_option maxHeartbeats 4000000 in
theorem ct_TR_take (h : am_H) (q b t : Nat) (sz tm al lf wf mf : Int32) (p : Nat) (gb gt : Nat → Int32) (hb : b ≤ 8) (hT : h[28 + 3 * q]? = some (c_TR q sz tm al lf wf mf p)) (hL : h[29 + 3 * q]? = some (ia 8 gt)) (h26 : h[26]? = some (ia 8 gb)) :
    am_Ct am_G0 m_TR_take 1 0 0 [.ref (28 + 3 * q), .ref 26, .int (nI b), .int (nI t)] h (fun v h' => v = none ∧ h' = (h.set (29 + 3 * q) (ia 8 (va_cpy gb gt 0 0 b))).set (28 + 3 * q) (c_TR q (nI b) (nI t) (nI 0) lf wf mf p)) := by
  refine am_Ct.of (E := E_TR_take) e_TR_take (by decide) (Nat.le_of_ble_eq_true rfl) ?_
  refine am_B.run (hp := false) (sp := []) 200 rfl ?_
  refine am_B.get rfl rfl rfl (by first | assumption | exact gs_s (by first | assumption | exact gs_s (by first | assumption | exact gs_s (by assumption) | (refine gs_n (by decide) ?_; assumption)) | (refine gs_n (by decide) ?_; first | assumption | exact gs_s (by assumption) | (refine gs_n (by decide) ?_; assumption))) | (refine gs_n (by decide) ?_; first | assumption | exact gs_s (by first | assumption | exact gs_s (by assumption) | (refine gs_n (by decide) ?_; assumption)) | (refine gs_n (by decide) ?_; first | assumption | exact gs_s (by assumption) | (refine gs_n (by decide) ?_; assumption)))) rfl rfl ?_
  refine am_B.run (hp := false) (sp := []) 200 rfl ?_
  refine am_B.copy (st := []) rfl rfl cw_TR_18 cw_nat cw_sta cw_ini h26 hL hb hb (by omega) (by decide) rfl ?_
  have hT1 : (h.set (29 + 3 * q) (ia 8 (va_cpy gb gt 0 0 b)))[28 + 3 * q]? = some (c_TR q sz tm al lf wf mf p) := gs_n (by omega) hT
  refine am_B.run (hp := false) (sp := []) 200 rfl ?_
  refine am_B.put rfl rfl rfl hT1 rfl (Nat.le_of_ble_eq_true rfl) rfl (fun q => by cases q) ?_
  refine am_B.run (hp := false) (sp := []) 200 rfl ?_
  refine am_B.put rfl rfl rfl (gs_s hT1) rfl (Nat.le_of_ble_eq_true rfl) rfl (fun q => by cases q) ?_
  rw [gs_ss]
  refine am_B.run (hp := false) (sp := []) 200 rfl ?_
  refine am_B.put rfl rfl rfl (gs_s hT1) rfl (Nat.le_of_ble_eq_true rfl) rfl (fun q => by cases q) ?_
  rw [gs_ss]
  exact am_B.vret rfl rfl rfl ⟨rfl, rfl⟩
set_option maxRecDepth 100000 in
set_option maxHeartbeats 4000000 in
theorem ct_TA_store (h : am_H) (k b t : Nat) (sz tm al lf wf mf : Int32) (p : Nat) (gb gt : Nat → Int32) (hk : k < 8) (hb : b ≤ 8) (ht : t ≤ 99) (h1 : h[1]? = some (c_TA (nI b) (nI k))) (h27 : h[27]? = some (ra 4 8 ts_)) (hT : h[28 + 3 * k]? = some (c_TR k sz tm al lf wf mf p)) (hL : h[29 + 3 * k]? = some (ia 8 gt)) (h26 : h[26]? = some (ia 8 gb)) :
    am_Ct am_G0 m_TA_store 2 0 0 [.ref 1, .int (nI t)] h (fun v h' => v = some (.int (nI k)) ∧ h' = ((h.set (29 + 3 * k) (ia 8 (va_cpy gb gt 0 0 b))).set (28 + 3 * k) (c_TR k (nI b) (nI t) (nI 0) lf wf mf p)).set 1 (c_TA (nI 0) (nI (k + 1)))) := by
  refine am_Ct.of (E := E_TA_store) e_TA_store (by decide) (Nat.le_of_ble_eq_true rfl) ?_
  refine am_B.run (hp := false) (sp := []) 200 rfl ?_
  refine am_B.if_lt rfl rfl (fun z => absurd z (nI_nlt (Nat.zero_le t) (by omega))) (fun _ => ?_)
  refine am_B.run (hp := false) (sp := []) 200 rfl ?_
  refine am_B.icmp_le rfl rfl (fun _ => ?_) (fun z => absurd (nI_le ht (by decide)) z)
  refine am_B.run (hp := false) (sp := []) 200 rfl ?_
  refine am_B.get rfl rfl rfl (by first | assumption | exact gs_s (by first | assumption | exact gs_s (by first | assumption | exact gs_s (by assumption) | (refine gs_n (by decide) ?_; assumption)) | (refine gs_n (by decide) ?_; first | assumption | exact gs_s (by assumption) | (refine gs_n (by decide) ?_; assumption))) | (refine gs_n (by decide) ?_; first | assumption | exact gs_s (by first | assumption | exact gs_s (by assumption) | (refine gs_n (by decide) ?_; assumption)) | (refine gs_n (by decide) ?_; first | assumption | exact gs_s (by assumption) | (refine gs_n (by decide) ?_; assumption)))) rfl rfl ?_
  refine am_B.run (hp := false) (sp := []) 200 rfl ?_
  refine am_B.icmp_lt rfl rfl (fun _ => ?_) (fun z => absurd (nI_lt hk (by decide)) z)
  refine am_B.run (hp := false) (sp := []) 200 rfl ?_
  refine am_B.get rfl rfl rfl (by first | assumption | exact gs_s (by first | assumption | exact gs_s (by first | assumption | exact gs_s (by assumption) | (refine gs_n (by decide) ?_; assumption)) | (refine gs_n (by decide) ?_; first | assumption | exact gs_s (by assumption) | (refine gs_n (by decide) ?_; assumption))) | (refine gs_n (by decide) ?_; first | assumption | exact gs_s (by first | assumption | exact gs_s (by assumption) | (refine gs_n (by decide) ?_; assumption)) | (refine gs_n (by decide) ?_; first | assumption | exact gs_s (by assumption) | (refine gs_n (by decide) ?_; assumption)))) rfl rfl ?_
  refine am_B.run (hp := false) (sp := []) 200 rfl ?_
  refine am_B.get rfl rfl rfl (by first | assumption | exact gs_s (by first | assumption | exact gs_s (by first | assumption | exact gs_s (by assumption) | (refine gs_n (by decide) ?_; assumption)) | (refine gs_n (by decide) ?_; first | assumption | exact gs_s (by assumption) | (refine gs_n (by decide) ?_; assumption))) | (refine gs_n (by decide) ?_; first | assumption | exact gs_s (by first | assumption | exact gs_s (by assumption) | (refine gs_n (by decide) ?_; assumption)) | (refine gs_n (by decide) ?_; first | assumption | exact gs_s (by assumption) | (refine gs_n (by decide) ?_; assumption)))) rfl rfl ?_
  refine am_B.run (hp := false) (sp := []) 200 rfl ?_
  refine am_B.ald rfl h27 (vp_n (show k < 8 by omega) rfl) (ts_get (show k < 8 by omega)) ?_
  refine am_B.run (hp := false) (sp := []) 200 rfl ?_
  refine am_B.get rfl rfl rfl (by first | assumption | exact gs_s (by first | assumption | exact gs_s (by first | assumption | exact gs_s (by assumption) | (refine gs_n (by decide) ?_; assumption)) | (refine gs_n (by decide) ?_; first | assumption | exact gs_s (by assumption) | (refine gs_n (by decide) ?_; assumption))) | (refine gs_n (by decide) ?_; first | assumption | exact gs_s (by first | assumption | exact gs_s (by assumption) | (refine gs_n (by decide) ?_; assumption)) | (refine gs_n (by decide) ?_; first | assumption | exact gs_s (by assumption) | (refine gs_n (by decide) ?_; assumption)))) rfl rfl ?_
  refine am_B.run (hp := false) (sp := []) 200 rfl ?_
  refine am_B.get rfl rfl rfl (by first | assumption | exact gs_s (by first | assumption | exact gs_s (by first | assumption | exact gs_s (by assumption) | (refine gs_n (by decide) ?_; assumption)) | (refine gs_n (by decide) ?_; first | assumption | exact gs_s (by assumption) | (refine gs_n (by decide) ?_; assumption))) | (refine gs_n (by decide) ?_; first | assumption | exact gs_s (by first | assumption | exact gs_s (by assumption) | (refine gs_n (by decide) ?_; assumption)) | (refine gs_n (by decide) ?_; first | assumption | exact gs_s (by assumption) | (refine gs_n (by decide) ?_; assumption)))) rfl rfl ?_
  refine am_B.run (hp := false) (sp := []) 200 rfl ?_
  refine am_B.callV (ci := 4) (n := 3) (as := [.ref 26, .int (nI b), .int (nI t)]) rfl rfl rfl (ct_TR_take h k b t sz tm al lf wf mf p gb gt hb hT hL h26) rfl rfl (by exact Nat.le_of_ble_eq_true rfl) rfl hT rfl rfl (fun v h' z => ?_)
  obtain ⟨rfl, rfl⟩ := z
  have g1 : ((h.set (29 + 3 * k) (ia 8 (va_cpy gb gt 0 0 b))).set (28 + 3 * k) (c_TR k (nI b) (nI t) (nI 0) lf wf mf p))[1]? = some (c_TA (nI b) (nI k)) := gs_n (by omega) (gs_n (by omega) h1)
  refine am_B.run (hp := false) (sp := []) 200 rfl ?_
  refine am_B.put rfl rfl rfl g1 rfl (Nat.le_of_ble_eq_true rfl) rfl (fun q => by cases q) ?_
  refine am_B.run (hp := false) (sp := []) 200 rfl ?_
  refine am_B.get rfl rfl rfl (gs_s g1) rfl rfl ?_
  refine am_B.run (hp := false) (sp := []) 200 rfl ?_
  refine am_B.put rfl rfl rfl (gs_s g1) rfl (Nat.le_of_ble_eq_true rfl) rfl (fun q => by cases q) ?_
  rw [gs_ss]
  show am_B _ _ _ _ _ _ (((h.set (29 + 3 * k) (ia 8 (va_cpy gb gt 0 0 b))).set (28 + 3 * k) (c_TR k (nI b) (nI t) (nI 0) lf wf mf p)).set 1 (c_TA (nI 0) (nI k + nI 1))) _ _
  rw [nI_add]
  refine am_B.run (hp := false) (sp := []) 200 rfl ?_
  refine am_B.get rfl rfl rfl (gs_s g1) rfl rfl ?_
  refine am_B.run (hp := false) (sp := []) 200 rfl ?_
  exact am_B.iret rfl rfl rfl ⟨by rw [nI_prd], rfl⟩
set_option maxRecDepth 100000 in
set_option maxHeartbeats 4000000 in
theorem ct_TA_event (h : am_H) (l b : Nat) (nt : Int32) (gb : Nat → Int32) (hl : l < 6) (hb : b < 8) (h1 : h[1]? = some (c_TA (nI b) nt)) (h26 : h[26]? = some (ia 8 gb)) :
    am_Ct am_G0 m_TA_event 1 0 0 [.ref 1, .int (nI l)] h (fun v h' => v = some (.int (nI (b + 1))) ∧ h' = (h.set 26 (ia 8 (upd gb b (nI l)))).set 1 (c_TA (nI (b + 1)) nt)) := by
  refine am_Ct.of (E := E_TA_event) e_TA_event (by decide) (Nat.le_of_ble_eq_true rfl) ?_
  refine am_B.run (hp := false) (sp := []) 200 rfl ?_
  refine am_B.callS (n := 1) (as := [.int (nI l)]) rfl rfl rfl (ct_TA_isNoLabel 0 _ l hl) rfl rfl (by exact Nat.le_of_ble_eq_true rfl) rfl rfl rfl (fun v h' q => ?_)
  obtain ⟨rfl, rfl⟩ := q
  refine am_B.run (hp := false) (sp := []) 200 rfl ?_
  refine am_B.if_eq rfl rfl (fun _ => ?_) (fun z => absurd rfl z)
  refine am_B.run (hp := false) (sp := []) 200 rfl ?_
  refine am_B.get rfl rfl rfl (by first | assumption | exact gs_s (by first | assumption | exact gs_s (by first | assumption | exact gs_s (by assumption) | (refine gs_n (by decide) ?_; assumption)) | (refine gs_n (by decide) ?_; first | assumption | exact gs_s (by assumption) | (refine gs_n (by decide) ?_; assumption))) | (refine gs_n (by decide) ?_; first | assumption | exact gs_s (by first | assumption | exact gs_s (by assumption) | (refine gs_n (by decide) ?_; assumption)) | (refine gs_n (by decide) ?_; first | assumption | exact gs_s (by assumption) | (refine gs_n (by decide) ?_; assumption)))) rfl rfl ?_
  refine am_B.run (hp := false) (sp := []) 200 rfl ?_
  refine am_B.icmp_lt rfl rfl (fun _ => ?_) (fun z => absurd (nI_lt hb (by decide)) z)
  refine am_B.run (hp := false) (sp := []) 200 rfl ?_
  refine am_B.get rfl rfl rfl (by first | assumption | exact gs_s (by first | assumption | exact gs_s (by first | assumption | exact gs_s (by assumption) | (refine gs_n (by decide) ?_; assumption)) | (refine gs_n (by decide) ?_; first | assumption | exact gs_s (by assumption) | (refine gs_n (by decide) ?_; assumption))) | (refine gs_n (by decide) ?_; first | assumption | exact gs_s (by first | assumption | exact gs_s (by assumption) | (refine gs_n (by decide) ?_; assumption)) | (refine gs_n (by decide) ?_; first | assumption | exact gs_s (by assumption) | (refine gs_n (by decide) ?_; assumption)))) rfl rfl ?_
  refine am_B.run (hp := false) (sp := []) 200 rfl ?_
  refine am_B.get rfl rfl rfl (by first | assumption | exact gs_s (by first | assumption | exact gs_s (by first | assumption | exact gs_s (by assumption) | (refine gs_n (by decide) ?_; assumption)) | (refine gs_n (by decide) ?_; first | assumption | exact gs_s (by assumption) | (refine gs_n (by decide) ?_; assumption))) | (refine gs_n (by decide) ?_; first | assumption | exact gs_s (by first | assumption | exact gs_s (by assumption) | (refine gs_n (by decide) ?_; assumption)) | (refine gs_n (by decide) ?_; first | assumption | exact gs_s (by assumption) | (refine gs_n (by decide) ?_; assumption)))) rfl rfl ?_
  refine am_B.run (hp := false) (sp := []) 200 rfl ?_
  refine am_B.ast rfl h26 (vp_n hb rfl) rfl ?_
  rw [nI_clamp (show b < 2 ^ 31 by omega)]
  refine am_B.run (hp := false) (sp := []) 200 rfl ?_
  refine am_B.get rfl rfl rfl (by first | assumption | exact gs_s (by first | assumption | exact gs_s (by first | assumption | exact gs_s (by assumption) | (refine gs_n (by decide) ?_; assumption)) | (refine gs_n (by decide) ?_; first | assumption | exact gs_s (by assumption) | (refine gs_n (by decide) ?_; assumption))) | (refine gs_n (by decide) ?_; first | assumption | exact gs_s (by first | assumption | exact gs_s (by assumption) | (refine gs_n (by decide) ?_; assumption)) | (refine gs_n (by decide) ?_; first | assumption | exact gs_s (by assumption) | (refine gs_n (by decide) ?_; assumption)))) rfl rfl ?_
  refine am_B.run (hp := false) (sp := []) 200 rfl ?_
  refine am_B.put rfl rfl rfl (by first | assumption | exact gs_s (by first | assumption | exact gs_s (by first | assumption | exact gs_s (by assumption) | (refine gs_n (by decide) ?_; assumption)) | (refine gs_n (by decide) ?_; first | assumption | exact gs_s (by assumption) | (refine gs_n (by decide) ?_; assumption))) | (refine gs_n (by decide) ?_; first | assumption | exact gs_s (by first | assumption | exact gs_s (by assumption) | (refine gs_n (by decide) ?_; assumption)) | (refine gs_n (by decide) ?_; first | assumption | exact gs_s (by assumption) | (refine gs_n (by decide) ?_; assumption)))) rfl (Nat.le_of_ble_eq_true rfl) rfl (fun q => by cases q) ?_
  show am_B _ _ _ _ _ _ ((h'.set 26 (ia 8 (upd gb b (nI l)))).set 1 (c_TA (nI b + nI 1) nt)) _ _
  rw [nI_add]
  refine am_B.run (hp := false) (sp := []) 200 rfl ?_
  refine am_B.get rfl rfl rfl (gs_s (gs_n (by decide) h1)) rfl rfl ?_
  exact am_B.iret rfl rfl rfl ⟨rfl, rfl⟩
end
section
/-! A FRESH ALIGNER: what throws -/
section XRULES2
variable {E : am_E} {R : Room} {Z : am_Z} {pc : Nat} {lo lo' : am_L} {st rest : List Value} {h : am_H} {rc rs : Nat} {r : am_Row} {DC DS F : Nat} {Qb : Option Value → am_H → Prop} {Xb : String → am_H → Prop} {hh : List (Nat × Nat × Nat × Nat)}
/-- a static method that may throw; what it throws goes on to the caller -/
theorem am_B.callSX {i ci n f dc ds : Nat} {M : am_M} {as : List Value} {Qa : Option Value → am_H → Prop} {Xa : String → am_H → Prop} (hf : am_find E.2.2.2 pc = some r) (hi : r.2.1 = .invokestatic i) (hm : am_mfind E.2.1.2.2 i = some (i, 1, ci, n, M)) (hc : am_CtX E.1 M f dc ds as h Qa Xa)
    (hst : st = as.reverse ++ rest) (hn : as.length = n) (hw : am_wd rest ≤ 8) (hfit : am_fits (am_rm F DC DS) f M.2.2.1 = true) {rc0 rs0 : Nat} (hrc : rc + dc = rc0) (hrs : rs + ds = rs0) (k : ∀ v h', Qa v h' → am_B E (am_rm F DC DS) (am_ZX E DC DS Qb Xb) (pc + 3) lo (v.toList ++ rest) h' rc rs) (kx : ∀ En h', Xa En h' → Xb En h') :
    am_B E (am_rm F DC DS) (am_ZX E DC DS Qb Xb) pc lo st h rc0 rs0 := by
  subst hrc; subst hrs
  intro ok l D cA sb base p e s m args below meth c C H locs cells slots ls hR hS h1 h2 hl
  by_cases hP : am_P [] l c base s
  rotate_left
  · intro T hT X
    exact ⟨_, Steps.refl _, fun z => absurd z hP⟩
  obtain ⟨hm0, rfl⟩ := am_find_ok hf
  obtain ⟨hd, -, -⟩ := ok.2.2 r hm0
  obtain ⟨hq, -⟩ := am_mfind_ok hm
  obtain ⟨hcode, hdes, hini, hlink, hstt⟩ := ok.2.1.2.2 _ hq
  dsimp only at hcode hdes hini hlink hstt
  have C0 := C
  obtain ⟨hx, hb, hml, hret, hown, hts, hK, hlk, hnm⟩ := C
  rw [hi] at hd
  subst hst
  have hfr := am_fits_ok hfit
  have r1 : cells + (rc + dc) ≤ DC := h1
  have r2 : slots + (rs + ds) ≤ DS := h2
  refine am_backX (vx_runS (As := as.map (am_cv sb base)) (rest := rest.map (am_cv sb base)) ⟨hx, hb, hml, hown, hts⟩ (hc l hP.1 D cA sb base)
    ⟨callB_of n hts (am_good ok.1 hcode) rfl rfl rfl (hts _ hini) (hts _ hlink) hdes hfr, hts _ hstt⟩
    ⟨am_blindV, fun U hU hW => ⟨rfl, ⟨by rw [hU]; exact hR.moved hW.alike, hK.moved hW⟩, am_V.moved hW (fun a q1 q2 => by rw [hU]; exact hS.2.1 a q1 q2) hP.2.2⟩⟩ rfl (by rw [List.length_map]; exact hn) hl.2.1 (by simp) ?_ hd ⟨by show cells + dc ≤ DC; omega, by show slots + ds ≤ DS; omega⟩) hS
    (fun v h' H1 locs1 hQ hR1 hS1 => k v h' hQ ok l D cA sb base p e s m args below meth c C0 H1 locs1 (cells + dc) (slots + ds) ls hR1 hS1 (by show cells + dc + rc ≤ DC; omega) (by show slots + ds + rs ≤ DS; omega) hl) ?_
  · show 2 * 0 + _ ≤ 8
    rw [am_wd_cv]
    omega
  · intro En ce q9 h' H1 locs1 hXa hR1 hS1 hce hcv hcl9 T hT X
    obtain ⟨t, a1, b1⟩ := vx_out (E := En) (mc := DC) (ms := DS) (free := fun q => base ≤ q) (Qc := am_Qc D E.1.1 cA sb base Qb) (XC := am_XC D E.1.1 cA sb base Xb) (fun x hx9 => by rw [hP.2.1] at hx9; cases hx9) hlk hce hcv hcl9
      (fun t ht hal => ⟨⟨h', kx En h' hXa, by rw [ht]; exact hR1.moved hal⟩, hS1.F ht⟩) hS1.2.2 (by omega) (by omega) T hT X
    exact ⟨t, a1, fun _ => b1⟩
end XRULES2
def xbad (x : Int32) (n : Nat) : Prop := x < 0 ∨ ∃ j, n ≤ j ∧ j < 2 ^ 31 ∧ x = nI j
theorem xbad_or (x : Int32) (n : Nat) : xbad x n ∨ ∃ j, j < n ∧ x = nI j := by
  by_cases h : x < 0
  · exact Or.inl (Or.inl h)
  · obtain ⟨j, h1, h2⟩ := nI_of h
    rcases Nat.lt_or_ge j n with q | q
    · exact Or.inr ⟨j, q, h2⟩
    · exact Or.inl (Or.inr ⟨j, q, h1, h2⟩)
theorem xbad_0 (x : Int32) : xbad x 0 := (xbad_or x 0).resolve_right fun ⟨j, q, _⟩ => absurd q (by omega)
set_option maxRecDepth 100000 in
set_option maxHeartbeats 4000000 in
theorem xt_requireTransition (h : am_H) (x : Int32) (n : Nat) (hx : xbad x n) {nb nt pc : Int32} (h1 : h[1]? = some (c_TA nb nt)) (h2 : h[2]? = some (c_NT pc (nI n))) : am_CtX am_G0 m_TA_requireTransition 6 1 6 [.ref 1, .int x] h (fun _ _ => False) (xo "java/lang/IndexOutOfBoundsException" h) := by
  refine am_CtX.of (E := E_TA_requireTransition) e_TA_requireTransition (by decide) (Nat.le_of_ble_eq_true rfl) ?_
  have J : am_B E_TA_requireTransition (am_rm 6 1 6) (am_ZX E_TA_requireTransition 1 6 (fun _ _ => False) (xo "java/lang/IndexOutOfBoundsException" h)) 15 [some (.ref 1), some (.int x)] [] h 1 6 := by
    exact am_B.thrW (rc := 0) (rs := 0) (cls := "java/lang/IndexOutOfBoundsException") (names := x_nm) rfl rfl rfl rfl rfl rfl rfl rfl rfl rfl x_fO x_fn x_wO (List.mem_of_getElem? (i := 3) rfl) (by decide) (by decide) (fun d => ⟨rfl, d, rfl⟩)
  refine am_B.run (hp := false) (sp := []) 200 rfl ?_
  rcases hx with hx | ⟨j, q1, q2, rfl⟩
  · exact am_B.if_lt rfl rfl (fun _ => J) (fun z => absurd hx z)
  · refine am_B.if_lt rfl rfl (fun z => absurd z (nI_nlt (Nat.zero_le _) q2)) (fun _ => ?_)
    refine am_B.run (hp := false) (sp := []) 200 rfl ?_
    refine am_B.get rfl rfl rfl (by first | assumption | exact gs_s (by first | assumption | exact gs_s (by first | assumption | exact gs_s (by assumption) | (refine gs_n (by decide) ?_; assumption)) | (refine gs_n (by decide) ?_; first | assumption | exact gs_s (by assumption) | (refine gs_n (by decide) ?_; assumption))) | (refine gs_n (by decide) ?_; first | assumption | exact gs_s (by first | assumption | exact gs_s (by assumption) | (refine gs_n (by decide) ?_; assumption)) | (refine gs_n (by decide) ?_; first | assumption | exact gs_s (by assumption) | (refine gs_n (by decide) ?_; assumption)))) rfl rfl ?_
    refine am_B.get rfl rfl rfl (by first | assumption | exact gs_s (by first | assumption | exact gs_s (by first | assumption | exact gs_s (by assumption) | (refine gs_n (by decide) ?_; assumption)) | (refine gs_n (by decide) ?_; first | assumption | exact gs_s (by assumption) | (refine gs_n (by decide) ?_; assumption))) | (refine gs_n (by decide) ?_; first | assumption | exact gs_s (by first | assumption | exact gs_s (by assumption) | (refine gs_n (by decide) ?_; assumption)) | (refine gs_n (by decide) ?_; first | assumption | exact gs_s (by assumption) | (refine gs_n (by decide) ?_; assumption)))) rfl rfl ?_
    refine am_B.icmp_lt rfl rfl (fun z => absurd z (nI_nlt q1 q2)) (fun _ => J)
set_option maxRecDepth 100000 in
set_option maxHeartbeats 4000000 in
theorem xt_requirePlace (h : am_H) (x : Int32) (n : Nat) (hx : xbad x n) {nb nt tc : Int32} (h1 : h[1]? = some (c_TA nb nt)) (h2 : h[2]? = some (c_NT (nI n) tc)) : am_CtX am_G0 m_TA_requirePlace 6 1 6 [.ref 1, .int x] h (fun _ _ => False) (xo "java/lang/IndexOutOfBoundsException" h) := by
  refine am_CtX.of (E := E_TA_requirePlace) e_TA_requirePlace (by decide) (Nat.le_of_ble_eq_true rfl) ?_
  have J : am_B E_TA_requirePlace (am_rm 6 1 6) (am_ZX E_TA_requirePlace 1 6 (fun _ _ => False) (xo "java/lang/IndexOutOfBoundsException" h)) 15 [some (.ref 1), some (.int x)] [] h 1 6 := by
    exact am_B.thrW (rc := 0) (rs := 0) (cls := "java/lang/IndexOutOfBoundsException") (names := x_nm) rfl rfl rfl rfl rfl rfl rfl rfl rfl rfl x_fO x_fn x_wO (List.mem_of_getElem? (i := 4) rfl) (by decide) (by decide) (fun d => ⟨rfl, d, rfl⟩)
  refine am_B.run (hp := false) (sp := []) 200 rfl ?_
  rcases hx with hx | ⟨j, q1, q2, rfl⟩
  · exact am_B.if_lt rfl rfl (fun _ => J) (fun z => absurd hx z)
  · refine am_B.if_lt rfl rfl (fun z => absurd z (nI_nlt (Nat.zero_le _) q2)) (fun _ => ?_)
    refine am_B.run (hp := false) (sp := []) 200 rfl ?_
    refine am_B.get rfl rfl rfl (by first | assumption | exact gs_s (by first | assumption | exact gs_s (by first | assumption | exact gs_s (by assumption) | (refine gs_n (by decide) ?_; assumption)) | (refine gs_n (by decide) ?_; first | assumption | exact gs_s (by assumption) | (refine gs_n (by decide) ?_; assumption))) | (refine gs_n (by decide) ?_; first | assumption | exact gs_s (by first | assumption | exact gs_s (by assumption) | (refine gs_n (by decide) ?_; assumption)) | (refine gs_n (by decide) ?_; first | assumption | exact gs_s (by assumption) | (refine gs_n (by decide) ?_; assumption)))) rfl rfl ?_
    refine am_B.get rfl rfl rfl (by first | assumption | exact gs_s (by first | assumption | exact gs_s (by first | assumption | exact gs_s (by assumption) | (refine gs_n (by decide) ?_; assumption)) | (refine gs_n (by decide) ?_; first | assumption | exact gs_s (by assumption) | (refine gs_n (by decide) ?_; assumption))) | (refine gs_n (by decide) ?_; first | assumption | exact gs_s (by first | assumption | exact gs_s (by assumption) | (refine gs_n (by decide) ?_; assumption)) | (refine gs_n (by decide) ?_; first | assumption | exact gs_s (by assumption) | (refine gs_n (by decide) ?_; assumption)))) rfl rfl ?_
    refine am_B.icmp_lt rfl rfl (fun z => absurd z (nI_nlt q1 q2)) (fun _ => J)
set_option maxRecDepth 100000 in
set_option maxHeartbeats 4000000 in
theorem xt_requireMarking (h : am_H) (x : Int32) (n : Nat) (hx : xbad x n) {nb nt ex la : Int32} (h1 : h[1]? = some (c_TA nb nt)) (h9 : h[9]? = some (c_MG ex (nI n) la)) : am_CtX am_G0 m_TA_requireMarking 6 1 6 [.ref 1, .int x] h (fun _ _ => False) (xo "java/lang/IndexOutOfBoundsException" h) := by
  refine am_CtX.of (E := E_TA_requireMarking) e_TA_requireMarking (by decide) (Nat.le_of_ble_eq_true rfl) ?_
  have J : am_B E_TA_requireMarking (am_rm 6 1 6) (am_ZX E_TA_requireMarking 1 6 (fun _ _ => False) (xo "java/lang/IndexOutOfBoundsException" h)) 15 [some (.ref 1), some (.int x)] [] h 1 6 := by
    exact am_B.thrW (rc := 0) (rs := 0) (cls := "java/lang/IndexOutOfBoundsException") (names := x_nm) rfl rfl rfl rfl rfl rfl rfl rfl rfl rfl x_fO x_fn x_wO (List.mem_of_getElem? (i := 8) rfl) (by decide) (by decide) (fun d => ⟨rfl, d, rfl⟩)
  refine am_B.run (hp := false) (sp := []) 200 rfl ?_
  rcases hx with hx | ⟨j, q1, q2, rfl⟩
  · exact am_B.if_lt rfl rfl (fun _ => J) (fun z => absurd hx z)
  · refine am_B.if_lt rfl rfl (fun z => absurd z (nI_nlt (Nat.zero_le _) q2)) (fun _ => ?_)
    refine am_B.run (hp := false) (sp := []) 200 rfl ?_
    refine am_B.get rfl rfl rfl (by first | assumption | exact gs_s (by first | assumption | exact gs_s (by first | assumption | exact gs_s (by assumption) | (refine gs_n (by decide) ?_; assumption)) | (refine gs_n (by decide) ?_; first | assumption | exact gs_s (by assumption) | (refine gs_n (by decide) ?_; assumption))) | (refine gs_n (by decide) ?_; first | assumption | exact gs_s (by first | assumption | exact gs_s (by assumption) | (refine gs_n (by decide) ?_; assumption)) | (refine gs_n (by decide) ?_; first | assumption | exact gs_s (by assumption) | (refine gs_n (by decide) ?_; assumption)))) rfl rfl ?_
    refine am_B.get rfl rfl rfl (by first | assumption | exact gs_s (by first | assumption | exact gs_s (by first | assumption | exact gs_s (by assumption) | (refine gs_n (by decide) ?_; assumption)) | (refine gs_n (by decide) ?_; first | assumption | exact gs_s (by assumption) | (refine gs_n (by decide) ?_; assumption))) | (refine gs_n (by decide) ?_; first | assumption | exact gs_s (by first | assumption | exact gs_s (by assumption) | (refine gs_n (by decide) ?_; assumption)) | (refine gs_n (by decide) ?_; first | assumption | exact gs_s (by assumption) | (refine gs_n (by decide) ?_; assumption)))) rfl rfl ?_
    refine am_B.icmp_lt rfl rfl (fun z => absurd z (nI_nlt q1 q2)) (fun _ => J)
set_option maxRecDepth 100000 in
set_option maxHeartbeats 4000000 in
theorem xt_requireTrace (h : am_H) (x : Int32) (n : Nat) (hx : xbad x n) {nb : Int32} (h1 : h[1]? = some (c_TA nb (nI n))) : am_CtX am_G0 m_TA_requireTrace 6 1 6 [.ref 1, .int x] h (fun _ _ => False) (xo "java/lang/IndexOutOfBoundsException" h) := by
  refine am_CtX.of (E := E_TA_requireTrace) e_TA_requireTrace (by decide) (Nat.le_of_ble_eq_true rfl) ?_
  have J : am_B E_TA_requireTrace (am_rm 6 1 6) (am_ZX E_TA_requireTrace 1 6 (fun _ _ => False) (xo "java/lang/IndexOutOfBoundsException" h)) 12 [some (.ref 1), some (.int x)] [] h 1 6 := by
    exact am_B.thrW (rc := 0) (rs := 0) (cls := "java/lang/IndexOutOfBoundsException") (names := x_nm) rfl rfl rfl rfl rfl rfl rfl rfl rfl rfl x_fO x_fn x_wO (List.mem_of_getElem? (i := 14) rfl) (by decide) (by decide) (fun d => ⟨rfl, d, rfl⟩)
  refine am_B.run (hp := false) (sp := []) 200 rfl ?_
  rcases hx with hx | ⟨j, q1, q2, rfl⟩
  · exact am_B.if_lt rfl rfl (fun _ => J) (fun z => absurd hx z)
  · refine am_B.if_lt rfl rfl (fun z => absurd z (nI_nlt (Nat.zero_le _) q2)) (fun _ => ?_)
    refine am_B.run (hp := false) (sp := []) 200 rfl ?_
    refine am_B.get rfl rfl rfl (by first | assumption | exact gs_s (by first | assumption | exact gs_s (by first | assumption | exact gs_s (by assumption) | (refine gs_n (by decide) ?_; assumption)) | (refine gs_n (by decide) ?_; first | assumption | exact gs_s (by assumption) | (refine gs_n (by decide) ?_; assumption))) | (refine gs_n (by decide) ?_; first | assumption | exact gs_s (by first | assumption | exact gs_s (by assumption) | (refine gs_n (by decide) ?_; assumption)) | (refine gs_n (by decide) ?_; first | assumption | exact gs_s (by assumption) | (refine gs_n (by decide) ?_; assumption)))) rfl rfl ?_
    refine am_B.icmp_lt rfl rfl (fun z => absurd z (nI_nlt q1 q2)) (fun _ => J)
set_option maxRecDepth 100000 in
set_option maxHeartbeats 4000000 in
theorem xt_requireCost (h : am_H) (x : Int32) (hx : xbad x 10) : am_CtX am_G0 m_TA_requireCost 6 1 6 [.int x] h (fun _ _ => False) (xo "java/lang/IllegalArgumentException" h) := by
  refine am_CtX.of (E := E_TA_requireCost) e_TA_requireCost (by decide) (Nat.le_of_ble_eq_true rfl) ?_
  have J : am_B E_TA_requireCost (am_rm 6 1 6) (am_ZX E_TA_requireCost 1 6 (fun _ _ => False) (xo "java/lang/IllegalArgumentException" h)) 10 [some (.int x)] [] h 1 6 := by
    exact am_B.thrW (rc := 0) (rs := 0) (cls := "java/lang/IllegalArgumentException") (names := x_nm) rfl rfl rfl rfl rfl rfl rfl rfl rfl rfl x_fA x_fn x_wA (List.mem_of_getElem? (i := 16) rfl) (by decide) (by decide) (fun d => ⟨rfl, d, rfl⟩)
  refine am_B.run (hp := false) (sp := []) 200 rfl ?_
  rcases hx with hx | ⟨j, q1, q2, rfl⟩
  · exact am_B.if_lt rfl rfl (fun _ => J) (fun z => absurd hx z)
  · refine am_B.if_lt rfl rfl (fun z => absurd z (nI_nlt (Nat.zero_le _) q2)) (fun _ => ?_)
    refine am_B.run (hp := false) (sp := []) 200 rfl ?_
    refine am_B.icmp_le rfl rfl (fun z => absurd z ?_) (fun _ => J)
    exact fun z => absurd (Int32.not_lt.mpr z) (fun q => q (nI_lt (show 9 < j by omega) q2))
set_option maxRecDepth 100000 in
set_option maxHeartbeats 4000000 in
theorem xt_isNoLabel (f : Nat) (h : am_H) (x : Int32) (hx : xbad x 6) : am_Ct am_G0 m_TA_isNoLabel f 0 0 [.int x] h (fun v h' => v = some (.int (nI 1)) ∧ h' = h) := by
  refine am_Ct.of (E := E_TA_isNoLabel) e_TA_isNoLabel (by decide) (Nat.le_of_ble_eq_true rfl) ?_
  refine am_B.run (hp := false) (sp := []) 200 rfl ?_
  rcases hx with hx | ⟨j, q1, q2, rfl⟩
  · refine am_B.if_lt rfl rfl (fun _ => ?_) (fun z => absurd hx z)
    refine am_B.run (hp := false) (sp := []) 200 rfl ?_
    exact am_B.zret rfl rfl rfl rfl ⟨rfl, rfl⟩
  · refine am_B.if_lt rfl rfl (fun z => absurd z (nI_nlt (Nat.zero_le _) q2)) (fun _ => ?_)
    refine am_B.run (hp := false) (sp := []) 200 rfl ?_
    refine am_B.icmp_lt rfl rfl (fun z => absurd z (nI_nlt q1 q2)) (fun _ => ?_)
    refine am_B.run (hp := false) (sp := []) 200 rfl ?_
    exact am_B.zret rfl rfl rfl rfl ⟨rfl, rfl⟩
set_option maxRecDepth 100000 in
set_option maxHeartbeats 4000000 in
theorem xt_requireMarkings (h : am_H) (X : xF h) : am_Ct am_G0 m_TA_requireMarkings 2 0 0 [.ref 1] h (fun v h' => v = none ∧ h' = hE h) := by
  have h1 := X.2.1
  have h9 := X.2.2.2.2.2.2.2.1
  have hl : 12 < h.length := by have := X.1; omega
  refine am_Ct.of (E := E_TA_requireMarkings) e_TA_requireMarkings (by decide) (Nat.le_of_ble_eq_true rfl) ?_
  refine am_B.run (hp := false) (sp := []) 200 rfl ?_
  refine am_B.get rfl rfl rfl (by first | assumption | exact gs_s (by first | assumption | exact gs_s (by first | assumption | exact gs_s (by assumption) | (refine gs_n (by decide) ?_; assumption)) | (refine gs_n (by decide) ?_; first | assumption | exact gs_s (by assumption) | (refine gs_n (by decide) ?_; assumption))) | (refine gs_n (by decide) ?_; first | assumption | exact gs_s (by first | assumption | exact gs_s (by assumption) | (refine gs_n (by decide) ?_; assumption)) | (refine gs_n (by decide) ?_; first | assumption | exact gs_s (by assumption) | (refine gs_n (by decide) ?_; assumption)))) rfl rfl ?_
  refine am_B.callV (ci := 2) (n := 0) (as := []) rfl rfl rfl X.explore rfl rfl (by exact Nat.le_of_ble_eq_true rfl) rfl h9 rfl rfl (fun v h' z => ?_)
  obtain ⟨rfl, rfl⟩ := z
  have e1 : (hE h)[1]? = some (c_TA (nI 0) (nI 0)) := (n4_o (by decide) (by decide) (by decide) (by decide)).trans h1
  have e9 : (hE h)[9]? = some (c_MG (nI 1) (nI 1) (nI 0)) := n4_9 hl
  refine am_B.run (hp := false) (sp := []) 200 rfl ?_
  refine am_B.get rfl rfl rfl (by first | assumption | exact gs_s (by first | assumption | exact gs_s (by first | assumption | exact gs_s (by assumption) | (refine gs_n (by decide) ?_; assumption)) | (refine gs_n (by decide) ?_; first | assumption | exact gs_s (by assumption) | (refine gs_n (by decide) ?_; assumption))) | (refine gs_n (by decide) ?_; first | assumption | exact gs_s (by first | assumption | exact gs_s (by assumption) | (refine gs_n (by decide) ?_; assumption)) | (refine gs_n (by decide) ?_; first | assumption | exact gs_s (by assumption) | (refine gs_n (by decide) ?_; assumption)))) rfl rfl ?_
  refine am_B.get rfl rfl rfl (by first | assumption | exact gs_s (by first | assumption | exact gs_s (by first | assumption | exact gs_s (by assumption) | (refine gs_n (by decide) ?_; assumption)) | (refine gs_n (by decide) ?_; first | assumption | exact gs_s (by assumption) | (refine gs_n (by decide) ?_; assumption))) | (refine gs_n (by decide) ?_; first | assumption | exact gs_s (by first | assumption | exact gs_s (by assumption) | (refine gs_n (by decide) ?_; assumption)) | (refine gs_n (by decide) ?_; first | assumption | exact gs_s (by assumption) | (refine gs_n (by decide) ?_; assumption)))) rfl rfl ?_
  refine am_B.run (hp := false) (sp := []) 200 rfl ?_
  refine am_B.icmp_ne rfl rfl (fun _ => ?_) (fun z => absurd z (by decide))
  exact am_B.vret rfl rfl rfl ⟨rfl, rfl⟩
theorem xF.e1 {h : am_H} (X : xF h) : (hE h)[1]? = some (c_TA (nI 0) (nI 0)) := (n4_o (by decide) (by decide) (by decide) (by decide)).trans X.2.1
theorem xF.e2 {h : am_H} (X : xF h) : (hE h)[2]? = some (c_NT (nI 0) (nI 0)) := (n4_o (by decide) (by decide) (by decide) (by decide)).trans X.2.2.1
theorem xF.e9 {h : am_H} (X : xF h) : (hE h)[9]? = some (c_MG (nI 1) (nI 1) (nI 0)) := n4_9 (by have := X.1; omega)
theorem xF.e11 {h : am_H} (X : xF h) : (hE h)[11]? = some (ia 200 (upd (fun _ => 0) 0 (nI 0))) := n4_11 (by have := X.1; omega)
end
section
/-! THE FRESH ALIGNER's methods that throw -/
set_option maxRecDepth 100000 in
set_option maxHeartbeats 4000000 in
theorem xx_link (h : am_H) (X : xF h) (a b c d : Int32) : am_CtX am_G0 m_TA_link 7 1 6 [.ref 1, .int a, .int b, .int c, .int d] h (fun _ _ => False) (xo "java/lang/IndexOutOfBoundsException" h) := by
  have h1 := X.2.1
  have h2 := X.2.2.1
  refine am_CtX.of (E := E_TA_link) e_TA_link (by decide) (Nat.le_of_ble_eq_true rfl) ?_
  refine am_B.run (hp := false) (sp := []) 200 rfl ?_
  refine am_B.callVX (rc := 0) (rs := 0) (ci := 0) (n := 1) (as := [.int a]) rfl rfl rfl (xt_requireTransition h a 0 (xbad_0 a) h1 h2) rfl rfl (by exact Nat.le_of_ble_eq_true rfl) rfl h1 rfl rfl (fun _ _ z => z.elim) (fun _ _ z => z)
set_option maxRecDepth 100000 in
set_option maxHeartbeats 4000000 in
theorem xx_setTokens (h : am_H) (X : xF h) (a b c : Int32) : am_CtX am_G0 m_TA_setTokens 7 1 6 [.ref 1, .int a, .int b, .int c] h (fun _ _ => False) (xo "java/lang/IndexOutOfBoundsException" h) := by
  have h1 := X.2.1
  have h2 := X.2.2.1
  refine am_CtX.of (E := E_TA_setTokens) e_TA_setTokens (by decide) (Nat.le_of_ble_eq_true rfl) ?_
  refine am_B.run (hp := false) (sp := []) 200 rfl ?_
  refine am_B.callVX (rc := 0) (rs := 0) (ci := 0) (n := 1) (as := [.int a]) rfl rfl rfl (xt_requirePlace h a 0 (xbad_0 a) h1 h2) rfl rfl (by exact Nat.le_of_ble_eq_true rfl) rfl h1 rfl rfl (fun _ _ z => z.elim) (fun _ _ z => z)
set_option maxRecDepth 100000 in
set_option maxHeartbeats 4000000 in
theorem xx_label (h : am_H) (X : xF h) (a : Int32) : am_CtX am_G0 m_TA_label 7 1 6 [.ref 1, .int a] h (fun _ _ => False) (xo "java/lang/IndexOutOfBoundsException" h) := by
  have h1 := X.2.1
  have h2 := X.2.2.1
  refine am_CtX.of (E := E_TA_label) e_TA_label (by decide) (Nat.le_of_ble_eq_true rfl) ?_
  refine am_B.run (hp := false) (sp := []) 200 rfl ?_
  refine am_B.callVX (rc := 0) (rs := 0) (ci := 0) (n := 1) (as := [.int a]) rfl rfl rfl (xt_requireTransition h a 0 (xbad_0 a) h1 h2) rfl rfl (by exact Nat.le_of_ble_eq_true rfl) rfl h1 rfl rfl (fun _ _ z => z.elim) (fun _ _ z => z)
set_option maxRecDepth 100000 in
set_option maxHeartbeats 4000000 in
theorem xx_setCost (h : am_H) (X : xF h) (a b : Int32) : am_CtX am_G0 m_TA_setCost 7 1 6 [.ref 1, .int a, .int b] h (fun _ _ => False) (xo "java/lang/IndexOutOfBoundsException" h) := by
  have h1 := X.2.1
  have h2 := X.2.2.1
  refine am_CtX.of (E := E_TA_setCost) e_TA_setCost (by decide) (Nat.le_of_ble_eq_true rfl) ?_
  refine am_B.run (hp := false) (sp := []) 200 rfl ?_
  refine am_B.callVX (rc := 0) (rs := 0) (ci := 0) (n := 1) (as := [.int a]) rfl rfl rfl (xt_requireTransition h a 0 (xbad_0 a) h1 h2) rfl rfl (by exact Nat.le_of_ble_eq_true rfl) rfl h1 rfl rfl (fun _ _ z => z.elim) (fun _ _ z => z)
set_option maxRecDepth 100000 in
set_option maxHeartbeats 4000000 in
theorem xx_length (h : am_H) (X : xF h) (a : Int32) : am_CtX am_G0 m_TA_length 7 1 6 [.ref 1, .int a] h (fun _ _ => False) (xo "java/lang/IndexOutOfBoundsException" h) := by
  have h1 := X.2.1
  have h2 := X.2.2.1
  refine am_CtX.of (E := E_TA_length) e_TA_length (by decide) (Nat.le_of_ble_eq_true rfl) ?_
  refine am_B.run (hp := false) (sp := []) 200 rfl ?_
  refine am_B.callVX (rc := 0) (rs := 0) (ci := 0) (n := 1) (as := [.int a]) rfl rfl rfl (xt_requireTrace h a 0 (xbad_0 a) h1) rfl rfl (by exact Nat.le_of_ble_eq_true rfl) rfl h1 rfl rfl (fun _ _ z => z.elim) (fun _ _ z => z)
set_option maxRecDepth 100000 in
set_option maxHeartbeats 4000000 in
theorem xx_alignedTrace (h : am_H) (X : xF h) (a : Int32) : am_CtX am_G0 m_TA_alignedTrace 7 1 6 [.ref 1, .int a] h (fun _ _ => False) (xo "java/lang/IndexOutOfBoundsException" h) := by
  have h1 := X.2.1
  have h2 := X.2.2.1
  refine am_CtX.of (E := E_TA_alignedTrace) e_TA_alignedTrace (by decide) (Nat.le_of_ble_eq_true rfl) ?_
  refine am_B.run (hp := false) (sp := []) 200 rfl ?_
  refine am_B.callVX (rc := 0) (rs := 0) (ci := 0) (n := 1) (as := [.int a]) rfl rfl rfl (xt_requireTrace h a 0 (xbad_0 a) h1) rfl rfl (by exact Nat.le_of_ble_eq_true rfl) rfl h1 rfl rfl (fun _ _ z => z.elim) (fun _ _ z => z)
set_option maxRecDepth 100000 in
set_option maxHeartbeats 4000000 in
theorem xx_cost (h : am_H) (X : xF h) (a : Int32) : am_CtX am_G0 m_TA_cost 8 1 6 [.ref 1, .int a] h (fun _ _ => False) (xo "java/lang/IndexOutOfBoundsException" h) := by
  have h1 := X.2.1
  have h2 := X.2.2.1
  refine am_CtX.of (E := E_TA_cost) e_TA_cost (by decide) (Nat.le_of_ble_eq_true rfl) ?_
  refine am_B.run (hp := false) (sp := []) 200 rfl ?_
  refine am_B.callVX (rc := 0) (rs := 0) (ci := 0) (n := 1) (as := [.int a]) rfl rfl rfl (xx_alignedTrace h X a) rfl rfl (by exact Nat.le_of_ble_eq_true rfl) rfl h1 rfl rfl (fun _ _ z => z.elim) (fun _ _ z => z)
set_option maxRecDepth 100000 in
set_option maxHeartbeats 4000000 in
theorem xx_moves (h : am_H) (X : xF h) (a : Int32) : am_CtX am_G0 m_TA_moves 8 1 6 [.ref 1, .int a] h (fun _ _ => False) (xo "java/lang/IndexOutOfBoundsException" h) := by
  have h1 := X.2.1
  have h2 := X.2.2.1
  refine am_CtX.of (E := E_TA_moves) e_TA_moves (by decide) (Nat.le_of_ble_eq_true rfl) ?_
  refine am_B.run (hp := false) (sp := []) 200 rfl ?_
  refine am_B.callVX (rc := 0) (rs := 0) (ci := 0) (n := 1) (as := [.int a]) rfl rfl rfl (xx_alignedTrace h X a) rfl rfl (by exact Nat.le_of_ble_eq_true rfl) rfl h1 rfl rfl (fun _ _ z => z.elim) (fun _ _ z => z)
set_option maxRecDepth 100000 in
set_option maxHeartbeats 4000000 in
theorem xx_worst (h : am_H) (X : xF h) (a : Int32) : am_CtX am_G0 m_TA_worst 8 1 6 [.ref 1, .int a] h (fun _ _ => False) (xo "java/lang/IndexOutOfBoundsException" h) := by
  have h1 := X.2.1
  have h2 := X.2.2.1
  refine am_CtX.of (E := E_TA_worst) e_TA_worst (by decide) (Nat.le_of_ble_eq_true rfl) ?_
  refine am_B.run (hp := false) (sp := []) 200 rfl ?_
  refine am_B.callVX (rc := 0) (rs := 0) (ci := 0) (n := 1) (as := [.int a]) rfl rfl rfl (xx_alignedTrace h X a) rfl rfl (by exact Nat.le_of_ble_eq_true rfl) rfl h1 rfl rfl (fun _ _ z => z.elim) (fun _ _ z => z)
set_option maxRecDepth 100000 in
set_option maxHeartbeats 4000000 in
theorem xx_fitness (h : am_H) (X : xF h) (a : Int32) : am_CtX am_G0 m_TA_fitness 8 1 6 [.ref 1, .int a] h (fun _ _ => False) (xo "java/lang/IndexOutOfBoundsException" h) := by
  have h1 := X.2.1
  have h2 := X.2.2.1
  refine am_CtX.of (E := E_TA_fitness) e_TA_fitness (by decide) (Nat.le_of_ble_eq_true rfl) ?_
  refine am_B.run (hp := false) (sp := []) 200 rfl ?_
  refine am_B.callVX (rc := 0) (rs := 0) (ci := 0) (n := 1) (as := [.int a]) rfl rfl rfl (xx_alignedTrace h X a) rfl rfl (by exact Nat.le_of_ble_eq_true rfl) rfl h1 rfl rfl (fun _ _ z => z.elim) (fun _ _ z => z)
set_option maxRecDepth 100000 in
set_option maxHeartbeats 4000000 in
theorem xx_move (h : am_H) (X : xF h) (a b c : Int32) : am_CtX am_G0 m_TA_move 8 1 6 [.ref 1, .int a, .int b, .int c] h (fun _ _ => False) (xo "java/lang/IndexOutOfBoundsException" h) := by
  have h1 := X.2.1
  have h2 := X.2.2.1
  refine am_CtX.of (E := E_TA_move) e_TA_move (by decide) (Nat.le_of_ble_eq_true rfl) ?_
  refine am_B.run (hp := false) (sp := []) 200 rfl ?_
  refine am_B.callVX (rc := 0) (rs := 0) (ci := 0) (n := 1) (as := [.int a]) rfl rfl rfl (xx_alignedTrace h X a) rfl rfl (by exact Nat.le_of_ble_eq_true rfl) rfl h1 rfl rfl (fun _ _ z => z.elim) (fun _ _ z => z)
set_option maxRecDepth 100000 in
set_option maxHeartbeats 4000000 in
theorem xx_enabled (h : am_H) (X : xF h) (a : Int32) (ha : xbad a 1) : am_CtX am_G0 m_TA_enabled 7 1 6 [.ref 1, .int a] h (fun _ _ => False) (xo "java/lang/IndexOutOfBoundsException" (hE h)) := by
  have h1 := X.2.1
  have h2 := X.2.2.1
  refine am_CtX.of (E := E_TA_enabled) e_TA_enabled (by decide) (Nat.le_of_ble_eq_true rfl) ?_
  refine am_B.run (hp := false) (sp := []) 200 rfl ?_
  refine am_B.callV (rc := 1) (rs := 6) (ci := 0) (n := 0) (as := []) rfl rfl rfl (xt_requireMarkings h X) rfl rfl (by exact Nat.le_of_ble_eq_true rfl) rfl h1 rfl rfl (fun v h' z => ?_)
  obtain ⟨rfl, rfl⟩ := z
  refine am_B.run (hp := false) (sp := []) 200 rfl ?_
  refine am_B.callVX (rc := 0) (rs := 0) (ci := 0) (n := 1) (as := [.int a]) rfl rfl rfl (xt_requireMarking _ a 1 ha X.e1 X.e9) rfl rfl (by exact Nat.le_of_ble_eq_true rfl) rfl X.e1 rfl rfl (fun _ _ z => z.elim) (fun _ _ z => z)
set_option maxRecDepth 100000 in
set_option maxHeartbeats 4000000 in
theorem xx_away (h : am_H) (X : xF h) (a : Int32) (ha : xbad a 1) : am_CtX am_G0 m_TA_away 7 1 6 [.ref 1, .int a] h (fun _ _ => False) (xo "java/lang/IndexOutOfBoundsException" (hE h)) := by
  have h1 := X.2.1
  have h2 := X.2.2.1
  refine am_CtX.of (E := E_TA_away) e_TA_away (by decide) (Nat.le_of_ble_eq_true rfl) ?_
  refine am_B.run (hp := false) (sp := []) 200 rfl ?_
  refine am_B.callV (rc := 1) (rs := 6) (ci := 0) (n := 0) (as := []) rfl rfl rfl (xt_requireMarkings h X) rfl rfl (by exact Nat.le_of_ble_eq_true rfl) rfl h1 rfl rfl (fun v h' z => ?_)
  obtain ⟨rfl, rfl⟩ := z
  refine am_B.run (hp := false) (sp := []) 200 rfl ?_
  refine am_B.callVX (rc := 0) (rs := 0) (ci := 0) (n := 1) (as := [.int a]) rfl rfl rfl (xt_requireMarking _ a 1 ha X.e1 X.e9) rfl rfl (by exact Nat.le_of_ble_eq_true rfl) rfl X.e1 rfl rfl (fun _ _ z => z.elim) (fun _ _ z => z)
set_option maxRecDepth 100000 in
set_option maxHeartbeats 4000000 in
theorem xx_tokensA (h : am_H) (X : xF h) (a b : Int32) (ha : xbad a 1) : am_CtX am_G0 m_TA_tokens 7 1 6 [.ref 1, .int a, .int b] h (fun _ _ => False) (xo "java/lang/IndexOutOfBoundsException" (hE h)) := by
  have h1 := X.2.1
  have h2 := X.2.2.1
  refine am_CtX.of (E := E_TA_tokens) e_TA_tokens (by decide) (Nat.le_of_ble_eq_true rfl) ?_
  refine am_B.run (hp := false) (sp := []) 200 rfl ?_
  refine am_B.callV (rc := 1) (rs := 6) (ci := 0) (n := 0) (as := []) rfl rfl rfl (xt_requireMarkings h X) rfl rfl (by exact Nat.le_of_ble_eq_true rfl) rfl h1 rfl rfl (fun v h' z => ?_)
  obtain ⟨rfl, rfl⟩ := z
  refine am_B.run (hp := false) (sp := []) 200 rfl ?_
  refine am_B.callVX (rc := 0) (rs := 0) (ci := 0) (n := 1) (as := [.int a]) rfl rfl rfl (xt_requireMarking _ a 1 ha X.e1 X.e9) rfl rfl (by exact Nat.le_of_ble_eq_true rfl) rfl X.e1 rfl rfl (fun _ _ z => z.elim) (fun _ _ z => z)
set_option maxRecDepth 100000 in
set_option maxHeartbeats 4000000 in
theorem xx_tokensB (h : am_H) (X : xF h) (b : Int32) : am_CtX am_G0 m_TA_tokens 7 1 6 [.ref 1, .int (nI 0), .int b] h (fun _ _ => False) (xo "java/lang/IndexOutOfBoundsException" (hE h)) := by
  have h1 := X.2.1
  have h2 := X.2.2.1
  refine am_CtX.of (E := E_TA_tokens) e_TA_tokens (by decide) (Nat.le_of_ble_eq_true rfl) ?_
  refine am_B.run (hp := false) (sp := []) 200 rfl ?_
  refine am_B.callV (rc := 1) (rs := 6) (ci := 0) (n := 0) (as := []) rfl rfl rfl (xt_requireMarkings h X) rfl rfl (by exact Nat.le_of_ble_eq_true rfl) rfl h1 rfl rfl (fun v h' z => ?_)
  obtain ⟨rfl, rfl⟩ := z
  refine am_B.run (hp := false) (sp := []) 200 rfl ?_
  refine am_B.callV (rc := 1) (rs := 6) (ci := 0) (n := 1) (as := [.int (nI 0)]) rfl rfl rfl (ct_TA_requireMarking 0 _ 0 1 (nI 0) (nI 0) (nI 1) (nI 0) (by decide) (by decide) X.e1 X.e9) rfl rfl (by exact Nat.le_of_ble_eq_true rfl) rfl X.e1 rfl rfl (fun v h' z => ?_)
  obtain ⟨rfl, rfl⟩ := z
  refine am_B.run (hp := false) (sp := []) 200 rfl ?_
  refine am_B.callVX (rc := 0) (rs := 0) (ci := 0) (n := 1) (as := [.int b]) rfl rfl rfl (xt_requirePlace _ b 0 (xbad_0 b) X.e1 X.e2) rfl rfl (by exact Nat.le_of_ble_eq_true rfl) rfl X.e1 rfl rfl (fun _ _ z => z.elim) (fun _ _ z => z)
set_option maxRecDepth 100000 in
set_option maxHeartbeats 4000000 in
theorem xx_nextA (h : am_H) (X : xF h) (a b : Int32) (ha : xbad a 1) : am_CtX am_G0 m_TA_next 7 1 6 [.ref 1, .int a, .int b] h (fun _ _ => False) (xo "java/lang/IndexOutOfBoundsException" (hE h)) := by
  have h1 := X.2.1
  have h2 := X.2.2.1
  refine am_CtX.of (E := E_TA_next) e_TA_next (by decide) (Nat.le_of_ble_eq_true rfl) ?_
  refine am_B.run (hp := false) (sp := []) 200 rfl ?_
  refine am_B.callV (rc := 1) (rs := 6) (ci := 0) (n := 0) (as := []) rfl rfl rfl (xt_requireMarkings h X) rfl rfl (by exact Nat.le_of_ble_eq_true rfl) rfl h1 rfl rfl (fun v h' z => ?_)
  obtain ⟨rfl, rfl⟩ := z
  refine am_B.run (hp := false) (sp := []) 200 rfl ?_
  refine am_B.callVX (rc := 0) (rs := 0) (ci := 0) (n := 1) (as := [.int a]) rfl rfl rfl (xt_requireMarking _ a 1 ha X.e1 X.e9) rfl rfl (by exact Nat.le_of_ble_eq_true rfl) rfl X.e1 rfl rfl (fun _ _ z => z.elim) (fun _ _ z => z)
set_option maxRecDepth 100000 in
set_option maxHeartbeats 4000000 in
theorem xx_nextB (h : am_H) (X : xF h) (b : Int32) : am_CtX am_G0 m_TA_next 7 1 6 [.ref 1, .int (nI 0), .int b] h (fun _ _ => False) (xo "java/lang/IndexOutOfBoundsException" (hE h)) := by
  have h1 := X.2.1
  have h2 := X.2.2.1
  refine am_CtX.of (E := E_TA_next) e_TA_next (by decide) (Nat.le_of_ble_eq_true rfl) ?_
  refine am_B.run (hp := false) (sp := []) 200 rfl ?_
  refine am_B.callV (rc := 1) (rs := 6) (ci := 0) (n := 0) (as := []) rfl rfl rfl (xt_requireMarkings h X) rfl rfl (by exact Nat.le_of_ble_eq_true rfl) rfl h1 rfl rfl (fun v h' z => ?_)
  obtain ⟨rfl, rfl⟩ := z
  refine am_B.run (hp := false) (sp := []) 200 rfl ?_
  refine am_B.callV (rc := 1) (rs := 6) (ci := 0) (n := 1) (as := [.int (nI 0)]) rfl rfl rfl (ct_TA_requireMarking 0 _ 0 1 (nI 0) (nI 0) (nI 1) (nI 0) (by decide) (by decide) X.e1 X.e9) rfl rfl (by exact Nat.le_of_ble_eq_true rfl) rfl X.e1 rfl rfl (fun v h' z => ?_)
  obtain ⟨rfl, rfl⟩ := z
  refine am_B.run (hp := false) (sp := []) 200 rfl ?_
  refine am_B.callVX (rc := 0) (rs := 0) (ci := 0) (n := 1) (as := [.int b]) rfl rfl rfl (xt_requireTransition _ b 0 (xbad_0 b) X.e1 X.e2) rfl rfl (by exact Nat.le_of_ble_eq_true rfl) rfl X.e1 rfl rfl (fun _ _ z => z.elim) (fun _ _ z => z)
set_option maxRecDepth 100000 in
set_option maxHeartbeats 4000000 in
theorem xx_event (h : am_H) (X : xF h) (a : Int32) (ha : xbad a 6) : am_CtX am_G0 m_TA_event 7 1 6 [.ref 1, .int a] h (fun _ _ => False) (xo "java/lang/IllegalArgumentException" h) := by
  have h1 := X.2.1
  have h2 := X.2.2.1
  refine am_CtX.of (E := E_TA_event) e_TA_event (by decide) (Nat.le_of_ble_eq_true rfl) ?_
  refine am_B.run (hp := false) (sp := []) 200 rfl ?_
  refine am_B.callS (rc := 1) (rs := 6) (n := 1) (as := [.int a]) rfl rfl rfl (xt_isNoLabel 0 h a ha) rfl rfl (by exact Nat.le_of_ble_eq_true rfl) rfl rfl rfl (fun v h' z => ?_)
  obtain ⟨rfl, rfl⟩ := z
  refine am_B.if_eq rfl rfl (fun z => absurd z (by decide)) (fun _ => ?_)
  exact am_B.thr (rc := 0) (rs := 0) (cls := "java/lang/IllegalArgumentException") (names := x_nm) rfl rfl rfl rfl rfl rfl rfl rfl rfl rfl x_fA x_fn x_wA (List.mem_of_getElem? (i := 9) rfl) (by decide) (by decide) (fun d => ⟨rfl, d, rfl⟩)
set_option maxRecDepth 100000 in
set_option maxHeartbeats 4000000 in
theorem xx_setLabelCostA (h : am_H) (X : xF h) (a b : Int32) (ha : xbad a 6) : am_CtX am_G0 m_TA_setLabelCost 7 1 6 [.ref 1, .int a, .int b] h (fun _ _ => False) (xo "java/lang/IndexOutOfBoundsException" h) := by
  have h1 := X.2.1
  have h2 := X.2.2.1
  refine am_CtX.of (E := E_TA_setLabelCost) e_TA_setLabelCost (by decide) (Nat.le_of_ble_eq_true rfl) ?_
  refine am_B.run (hp := false) (sp := []) 200 rfl ?_
  refine am_B.callS (rc := 1) (rs := 6) (n := 1) (as := [.int a]) rfl rfl rfl (xt_isNoLabel 0 h a ha) rfl rfl (by exact Nat.le_of_ble_eq_true rfl) rfl rfl rfl (fun v h' z => ?_)
  obtain ⟨rfl, rfl⟩ := z
  refine am_B.if_eq rfl rfl (fun z => absurd z (by decide)) (fun _ => ?_)
  exact am_B.thr (rc := 0) (rs := 0) (cls := "java/lang/IndexOutOfBoundsException") (names := x_nm) rfl rfl rfl rfl rfl rfl rfl rfl rfl rfl x_fO x_fn x_wO (List.mem_of_getElem? (i := 15) rfl) (by decide) (by decide) (fun d => ⟨rfl, d, rfl⟩)
set_option maxRecDepth 100000 in
set_option maxHeartbeats 4000000 in
theorem xx_addTransition (h : am_H) (X : xF h) (a : Int32) (ha : xbad a 6) (hm : ¬ a = -1) : am_CtX am_G0 m_TA_addTransition 7 1 6 [.ref 1, .int a] h (fun _ _ => False) (xo "java/lang/IllegalArgumentException" h) := by
  have h1 := X.2.1
  have h2 := X.2.2.1
  refine am_CtX.of (E := E_TA_addTransition) e_TA_addTransition (by decide) (Nat.le_of_ble_eq_true rfl) ?_
  refine am_B.run (hp := false) (sp := []) 200 rfl ?_
  refine am_B.icmp_eq rfl rfl (fun z => absurd z hm) (fun _ => ?_)
  refine am_B.run (hp := false) (sp := []) 200 rfl ?_
  refine am_B.callS (rc := 1) (rs := 6) (n := 1) (as := [.int a]) rfl rfl rfl (xt_isNoLabel 0 h a ha) rfl rfl (by exact Nat.le_of_ble_eq_true rfl) rfl rfl rfl (fun v h' z => ?_)
  obtain ⟨rfl, rfl⟩ := z
  refine am_B.if_eq rfl rfl (fun z => absurd z (by decide)) (fun _ => ?_)
  exact am_B.thr (rc := 0) (rs := 0) (cls := "java/lang/IllegalArgumentException") (names := x_nm) rfl rfl rfl rfl rfl rfl rfl rfl rfl rfl x_fA x_fn x_wA (List.mem_of_getElem? (i := 1) rfl) (by decide) (by decide) (fun d => ⟨rfl, d, rfl⟩)
set_option maxRecDepth 100000 in
set_option maxHeartbeats 4000000 in
theorem xx_setLabelCostB (h : am_H) (X : xF h) (l : Nat) (hl : l < 6) (b : Int32) (hb : xbad b 10) : am_CtX am_G0 m_TA_setLabelCost 7 1 6 [.ref 1, .int (nI l), .int b] h (fun _ _ => False) (xo "java/lang/IllegalArgumentException" h) := by
  have h1 := X.2.1
  have h2 := X.2.2.1
  refine am_CtX.of (E := E_TA_setLabelCost) e_TA_setLabelCost (by decide) (Nat.le_of_ble_eq_true rfl) ?_
  refine am_B.run (hp := false) (sp := []) 200 rfl ?_
  refine am_B.callS (rc := 1) (rs := 6) (n := 1) (as := [.int (nI l)]) rfl rfl rfl (ct_TA_isNoLabel 0 h l hl) rfl rfl (by exact Nat.le_of_ble_eq_true rfl) rfl rfl rfl (fun v h' z => ?_)
  obtain ⟨rfl, rfl⟩ := z
  refine am_B.if_eq rfl rfl (fun _ => ?_) (fun z => absurd rfl z)
  refine am_B.run (hp := false) (sp := []) 200 rfl ?_
  refine am_B.callSX (rc := 0) (rs := 0) (n := 1) (as := [.int b]) rfl rfl rfl (xt_requireCost h' b hb) rfl rfl (by exact Nat.le_of_ble_eq_true rfl) rfl rfl rfl (fun _ _ z => z.elim) (fun _ _ z => z)
set_option maxRecDepth 100000 in
set_option maxHeartbeats 4000000 in
theorem xx_dropTrace (h : am_H) (X : xF h)  : am_CtX am_G0 m_TA_dropTrace 7 1 6 [.ref 1] h (fun _ _ => False) (xo "java/lang/IllegalStateException" h) := by
  have h1 := X.2.1
  have h2 := X.2.2.1
  refine am_CtX.of (E := E_TA_dropTrace) e_TA_dropTrace (by decide) (Nat.le_of_ble_eq_true rfl) ?_
  refine am_B.run (hp := false) (sp := []) 200 rfl ?_
  refine am_B.get rfl rfl rfl (by first | assumption | exact gs_s (by first | assumption | exact gs_s (by first | assumption | exact gs_s (by assumption) | (refine gs_n (by decide) ?_; assumption)) | (refine gs_n (by decide) ?_; first | assumption | exact gs_s (by assumption) | (refine gs_n (by decide) ?_; assumption))) | (refine gs_n (by decide) ?_; first | assumption | exact gs_s (by first | assumption | exact gs_s (by assumption) | (refine gs_n (by decide) ?_; assumption)) | (refine gs_n (by decide) ?_; first | assumption | exact gs_s (by assumption) | (refine gs_n (by decide) ?_; assumption)))) rfl rfl ?_
  refine am_B.if_ne rfl rfl (fun z => absurd rfl z) (fun _ => ?_)
  exact am_B.thr (rc := 0) (rs := 0) (cls := "java/lang/IllegalStateException") (names := x_nm) rfl rfl rfl rfl rfl rfl rfl rfl rfl rfl x_fS x_fn x_wS (List.mem_of_getElem? (i := 13) rfl) (by decide) (by decide) (fun d => ⟨rfl, d, rfl⟩)
set_option maxRecDepth 100000 in
set_option maxHeartbeats 4000000 in
theorem xx_store (h : am_H) (X : xF h) (a : Int32) (ha : xbad a 100) : am_CtX am_G0 m_TA_store 7 1 6 [.ref 1, .int a] h (fun _ _ => False) (xo "java/lang/IllegalArgumentException" h) := by
  have h1 := X.2.1
  have h2 := X.2.2.1
  refine am_CtX.of (E := E_TA_store) e_TA_store (by decide) (Nat.le_of_ble_eq_true rfl) ?_
  have J : am_B E_TA_store (am_rm 7 1 6) (am_ZX E_TA_store 1 6 (fun _ _ => False) (xo "java/lang/IllegalArgumentException" h)) 10 [some (.ref 1), some (.int a)] [] h 1 6 := by
    exact am_B.thr (rc := 0) (rs := 0) (cls := "java/lang/IllegalArgumentException") (names := x_nm) rfl rfl rfl rfl rfl rfl rfl rfl rfl rfl x_fA x_fn x_wA (List.mem_of_getElem? (i := 11) rfl) (by decide) (by decide) (fun d => ⟨rfl, d, rfl⟩)
  refine am_B.run (hp := false) (sp := []) 200 rfl ?_
  rcases ha with ha | ⟨j, q1, q2, rfl⟩
  · exact am_B.if_lt rfl rfl (fun _ => J) (fun z => absurd ha z)
  · refine am_B.if_lt rfl rfl (fun z => absurd z (nI_nlt (Nat.zero_le _) q2)) (fun _ => ?_)
    refine am_B.run (hp := false) (sp := []) 200 rfl ?_
    refine am_B.icmp_le rfl rfl (fun z => absurd (Int32.not_lt.mpr z) (fun q => q (nI_lt (show 99 < j by omega) q2))) (fun _ => J)
set_option maxRecDepth 100000 in
set_option maxHeartbeats 4000000 in
theorem xx_count (h : am_H) (X : xF h) (a : Int32) (ha : xbad a 3) : am_CtX am_G0 m_TA_count 7 1 6 [.ref 1, .int a] h (fun _ _ => False) (xo "java/lang/IndexOutOfBoundsException" h) := by
  have h1 := X.2.1
  have h2 := X.2.2.1
  refine am_CtX.of (E := E_TA_count) e_TA_count (by decide) (Nat.le_of_ble_eq_true rfl) ?_
  refine am_B.run (hp := false) (sp := []) 200 rfl ?_
  refine am_B.tswOut (tgt := 49) de_count ?_ rfl ?_
  · rcases ha with ha | ⟨j, q1, q2, rfl⟩
    · left
      have := Int32.lt_iff_toInt_lt.mp ha
      exact this
    · right
      rw [nI_toInt q2]
      show (2 : Int) < (j : Int)
      omega
  exact am_B.thr (rc := 0) (rs := 0) (cls := "java/lang/IndexOutOfBoundsException") (names := x_nm) rfl rfl rfl rfl rfl rfl rfl rfl rfl rfl x_fO x_fn x_wO (List.mem_of_getElem? (i := 6) rfl) (by decide) (by decide) (fun d => ⟨rfl, d, rfl⟩)
end
section
/-! THE FRESH ALIGNER's methods that answer -/
theorem xF.e12 {h : am_H} (X : xF h) : (hE h)[12]? = some (z_ 2000) := n4_12 (by have := X.1; omega)
theorem xF.eo {h : am_H} {k : Nat} {x : am_C} (hk : k < 9 ∨ 12 < k) (hx : h[k]? = some x) : (hE h)[k]? = some x := (n4_o (by omega) (by omega) (by omega) (by omega)).trans hx
set_option maxRecDepth 100000 in
set_option maxHeartbeats 4000000 in
theorem xx_markings (h : am_H) (X : xF h) : am_Ct am_G0 m_TA_markings 2 0 0 [.ref 1] h (fun v h' => v = some (.int (nI 1)) ∧ h' = hE h) := by
  have h1 := X.2.1
  have h9 := X.2.2.2.2.2.2.2.1
  have e1 := X.e1
  have e9 := X.e9
  refine am_Ct.of (E := E_TA_markings) e_TA_markings (by decide) (Nat.le_of_ble_eq_true rfl) ?_
  refine am_B.run (hp := false) (sp := []) 200 rfl ?_
  refine am_B.get rfl rfl rfl (by first | assumption | exact gs_s (by first | assumption | exact gs_s (by first | assumption | exact gs_s (by assumption) | (refine gs_n (by decide) ?_; assumption)) | (refine gs_n (by decide) ?_; first | assumption | exact gs_s (by assumption) | (refine gs_n (by decide) ?_; assumption))) | (refine gs_n (by decide) ?_; first | assumption | exact gs_s (by first | assumption | exact gs_s (by assumption) | (refine gs_n (by decide) ?_; assumption)) | (refine gs_n (by decide) ?_; first | assumption | exact gs_s (by assumption) | (refine gs_n (by decide) ?_; assumption)))) rfl rfl ?_
  refine am_B.callV (ci := 2) (n := 0) (as := []) rfl rfl rfl X.explore rfl rfl (by exact Nat.le_of_ble_eq_true rfl) rfl h9 rfl rfl (fun v h' z => ?_)
  obtain ⟨rfl, rfl⟩ := z
  refine am_B.run (hp := false) (sp := []) 200 rfl ?_
  refine am_B.get rfl rfl rfl (by first | assumption | exact gs_s (by first | assumption | exact gs_s (by first | assumption | exact gs_s (by assumption) | (refine gs_n (by decide) ?_; assumption)) | (refine gs_n (by decide) ?_; first | assumption | exact gs_s (by assumption) | (refine gs_n (by decide) ?_; assumption))) | (refine gs_n (by decide) ?_; first | assumption | exact gs_s (by first | assumption | exact gs_s (by assumption) | (refine gs_n (by decide) ?_; assumption)) | (refine gs_n (by decide) ?_; first | assumption | exact gs_s (by assumption) | (refine gs_n (by decide) ?_; assumption)))) rfl rfl ?_
  refine am_B.get rfl rfl rfl (by first | assumption | exact gs_s (by first | assumption | exact gs_s (by first | assumption | exact gs_s (by assumption) | (refine gs_n (by decide) ?_; assumption)) | (refine gs_n (by decide) ?_; first | assumption | exact gs_s (by assumption) | (refine gs_n (by decide) ?_; assumption))) | (refine gs_n (by decide) ?_; first | assumption | exact gs_s (by first | assumption | exact gs_s (by assumption) | (refine gs_n (by decide) ?_; assumption)) | (refine gs_n (by decide) ?_; first | assumption | exact gs_s (by assumption) | (refine gs_n (by decide) ?_; assumption)))) rfl rfl ?_
  exact am_B.iret rfl rfl rfl ⟨rfl, rfl⟩
set_option maxRecDepth 100000 in
set_option maxHeartbeats 4000000 in
theorem xx_last (h : am_H) (X : xF h) : am_Ct am_G0 m_TA_last 3 0 0 [.ref 1] h (fun v h' => v = some (.int (nI 0)) ∧ h' = hE h) := by
  have h1 := X.2.1
  have e1 := X.e1
  have e9 := X.e9
  refine am_Ct.of (E := E_TA_last) e_TA_last (by decide) (Nat.le_of_ble_eq_true rfl) ?_
  refine am_B.run (hp := false) (sp := []) 200 rfl ?_
  refine am_B.callV (ci := 0) (n := 0) (as := []) rfl rfl rfl (xt_requireMarkings h X) rfl rfl (by exact Nat.le_of_ble_eq_true rfl) rfl h1 rfl rfl (fun v h' z => ?_)
  obtain ⟨rfl, rfl⟩ := z
  refine am_B.run (hp := false) (sp := []) 200 rfl ?_
  refine am_B.get rfl rfl rfl (by first | assumption | exact gs_s (by first | assumption | exact gs_s (by first | assumption | exact gs_s (by assumption) | (refine gs_n (by decide) ?_; assumption)) | (refine gs_n (by decide) ?_; first | assumption | exact gs_s (by assumption) | (refine gs_n (by decide) ?_; assumption))) | (refine gs_n (by decide) ?_; first | assumption | exact gs_s (by first | assumption | exact gs_s (by assumption) | (refine gs_n (by decide) ?_; assumption)) | (refine gs_n (by decide) ?_; first | assumption | exact gs_s (by assumption) | (refine gs_n (by decide) ?_; assumption)))) rfl rfl ?_
  refine am_B.get rfl rfl rfl (by first | assumption | exact gs_s (by first | assumption | exact gs_s (by first | assumption | exact gs_s (by assumption) | (refine gs_n (by decide) ?_; assumption)) | (refine gs_n (by decide) ?_; first | assumption | exact gs_s (by assumption) | (refine gs_n (by decide) ?_; assumption))) | (refine gs_n (by decide) ?_; first | assumption | exact gs_s (by first | assumption | exact gs_s (by assumption) | (refine gs_n (by decide) ?_; assumption)) | (refine gs_n (by decide) ?_; first | assumption | exact gs_s (by assumption) | (refine gs_n (by decide) ?_; assumption)))) rfl rfl ?_
  exact am_B.iret rfl rfl rfl ⟨rfl, rfl⟩
set_option maxRecDepth 100000 in
set_option maxHeartbeats 4000000 in
theorem xx_enabled0 (h : am_H) (X : xF h) : am_Ct am_G0 m_TA_enabled 3 0 0 [.ref 1, .int (nI 0)] h (fun v h' => v = some (.int (nI 0)) ∧ h' = hE h) := by
  have h1 := X.2.1
  have e1 := X.e1
  have e9 := X.e9
  have e11 := X.e11
  refine am_Ct.of (E := E_TA_enabled) e_TA_enabled (by decide) (Nat.le_of_ble_eq_true rfl) ?_
  refine am_B.run (hp := false) (sp := []) 200 rfl ?_
  refine am_B.callV (ci := 0) (n := 0) (as := []) rfl rfl rfl (xt_requireMarkings h X) rfl rfl (by exact Nat.le_of_ble_eq_true rfl) rfl h1 rfl rfl (fun v h' z => ?_)
  obtain ⟨rfl, rfl⟩ := z
  refine am_B.run (hp := false) (sp := []) 200 rfl ?_
  refine am_B.callV (ci := 0) (n := 1) (as := [.int (nI 0)]) rfl rfl rfl (ct_TA_requireMarking 0 _ 0 1 (nI 0) (nI 0) (nI 1) (nI 0) (by decide) (by decide) X.e1 X.e9) rfl rfl (by exact Nat.le_of_ble_eq_true rfl) rfl X.e1 rfl rfl (fun v h' z => ?_)
  obtain ⟨rfl, rfl⟩ := z
  refine am_B.run (hp := false) (sp := []) 200 rfl ?_
  refine am_B.get rfl rfl rfl (by first | assumption | exact gs_s (by first | assumption | exact gs_s (by first | assumption | exact gs_s (by assumption) | (refine gs_n (by decide) ?_; assumption)) | (refine gs_n (by decide) ?_; first | assumption | exact gs_s (by assumption) | (refine gs_n (by decide) ?_; assumption))) | (refine gs_n (by decide) ?_; first | assumption | exact gs_s (by first | assumption | exact gs_s (by assumption) | (refine gs_n (by decide) ?_; assumption)) | (refine gs_n (by decide) ?_; first | assumption | exact gs_s (by assumption) | (refine gs_n (by decide) ?_; assumption)))) rfl rfl ?_
  refine am_B.get rfl rfl rfl (by first | assumption | exact gs_s (by first | assumption | exact gs_s (by first | assumption | exact gs_s (by assumption) | (refine gs_n (by decide) ?_; assumption)) | (refine gs_n (by decide) ?_; first | assumption | exact gs_s (by assumption) | (refine gs_n (by decide) ?_; assumption))) | (refine gs_n (by decide) ?_; first | assumption | exact gs_s (by first | assumption | exact gs_s (by assumption) | (refine gs_n (by decide) ?_; assumption)) | (refine gs_n (by decide) ?_; first | assumption | exact gs_s (by assumption) | (refine gs_n (by decide) ?_; assumption)))) rfl rfl ?_
  refine am_B.run (hp := false) (sp := []) 200 rfl ?_
  refine am_B.ald rfl e11 (vp_n (show 0 < 200 by decide) rfl) rfl ?_
  rw [nI_clamp (show 0 < 2 ^ 31 by decide), upd_s]
  exact am_B.iret rfl rfl rfl ⟨rfl, rfl⟩
set_option maxRecDepth 100000 in
set_option maxHeartbeats 4000000 in
theorem xx_dead (h : am_H) (X : xF h) : am_Ct am_G0 m_TA_dead 3 0 0 [.ref 1] h (fun v h' => v = some (.int (nI 0)) ∧ h' = hE h) := by
  have h1 := X.2.1
  have e1 := X.e1
  have e9 := X.e9
  refine am_Ct.of (E := E_TA_dead) e_TA_dead (by decide) (Nat.le_of_ble_eq_true rfl) ?_
  refine am_B.run (hp := false) (sp := []) 200 rfl ?_
  refine am_B.callV (ci := 0) (n := 0) (as := []) rfl rfl rfl (xt_requireMarkings h X) rfl rfl (by exact Nat.le_of_ble_eq_true rfl) rfl h1 rfl rfl (fun v h' z => ?_)
  obtain ⟨rfl, rfl⟩ := z
  refine am_B.run (hp := false) (sp := []) 200 rfl ?_
  refine am_B.get rfl rfl rfl (by first | assumption | exact gs_s (by first | assumption | exact gs_s (by first | assumption | exact gs_s (by assumption) | (refine gs_n (by decide) ?_; assumption)) | (refine gs_n (by decide) ?_; first | assumption | exact gs_s (by assumption) | (refine gs_n (by decide) ?_; assumption))) | (refine gs_n (by decide) ?_; first | assumption | exact gs_s (by first | assumption | exact gs_s (by assumption) | (refine gs_n (by decide) ?_; assumption)) | (refine gs_n (by decide) ?_; first | assumption | exact gs_s (by assumption) | (refine gs_n (by decide) ?_; assumption)))) rfl rfl ?_
  refine am_B.get rfl rfl rfl (by first | assumption | exact gs_s (by first | assumption | exact gs_s (by first | assumption | exact gs_s (by assumption) | (refine gs_n (by decide) ?_; assumption)) | (refine gs_n (by decide) ?_; first | assumption | exact gs_s (by assumption) | (refine gs_n (by decide) ?_; assumption))) | (refine gs_n (by decide) ?_; first | assumption | exact gs_s (by first | assumption | exact gs_s (by assumption) | (refine gs_n (by decide) ?_; assumption)) | (refine gs_n (by decide) ?_; first | assumption | exact gs_s (by assumption) | (refine gs_n (by decide) ?_; assumption)))) rfl rfl ?_
  refine am_B.icmp_ge rfl rfl (fun z => absurd z (by decide)) (fun _ => ?_)
  refine am_B.run (hp := false) (sp := []) 200 rfl ?_
  refine am_B.get rfl rfl rfl (by first | assumption | exact gs_s (by first | assumption | exact gs_s (by first | assumption | exact gs_s (by assumption) | (refine gs_n (by decide) ?_; assumption)) | (refine gs_n (by decide) ?_; first | assumption | exact gs_s (by assumption) | (refine gs_n (by decide) ?_; assumption))) | (refine gs_n (by decide) ?_; first | assumption | exact gs_s (by first | assumption | exact gs_s (by assumption) | (refine gs_n (by decide) ?_; assumption)) | (refine gs_n (by decide) ?_; first | assumption | exact gs_s (by assumption) | (refine gs_n (by decide) ?_; assumption)))) rfl rfl ?_
  refine am_B.get rfl rfl rfl (by first | assumption | exact gs_s (by first | assumption | exact gs_s (by first | assumption | exact gs_s (by assumption) | (refine gs_n (by decide) ?_; assumption)) | (refine gs_n (by decide) ?_; first | assumption | exact gs_s (by assumption) | (refine gs_n (by decide) ?_; assumption))) | (refine gs_n (by decide) ?_; first | assumption | exact gs_s (by first | assumption | exact gs_s (by assumption) | (refine gs_n (by decide) ?_; assumption)) | (refine gs_n (by decide) ?_; first | assumption | exact gs_s (by assumption) | (refine gs_n (by decide) ?_; assumption)))) rfl rfl ?_
  refine am_B.icmp_eq rfl rfl (fun _ => ?_) (fun z => absurd rfl z)
  refine am_B.run (hp := false) (sp := []) 200 rfl ?_
  refine am_B.get rfl rfl rfl (by first | assumption | exact gs_s (by first | assumption | exact gs_s (by first | assumption | exact gs_s (by assumption) | (refine gs_n (by decide) ?_; assumption)) | (refine gs_n (by decide) ?_; first | assumption | exact gs_s (by assumption) | (refine gs_n (by decide) ?_; assumption))) | (refine gs_n (by decide) ?_; first | assumption | exact gs_s (by first | assumption | exact gs_s (by assumption) | (refine gs_n (by decide) ?_; assumption)) | (refine gs_n (by decide) ?_; first | assumption | exact gs_s (by assumption) | (refine gs_n (by decide) ?_; assumption)))) rfl rfl ?_
  refine am_B.get rfl rfl rfl (by first | assumption | exact gs_s (by first | assumption | exact gs_s (by first | assumption | exact gs_s (by assumption) | (refine gs_n (by decide) ?_; assumption)) | (refine gs_n (by decide) ?_; first | assumption | exact gs_s (by assumption) | (refine gs_n (by decide) ?_; assumption))) | (refine gs_n (by decide) ?_; first | assumption | exact gs_s (by first | assumption | exact gs_s (by assumption) | (refine gs_n (by decide) ?_; assumption)) | (refine gs_n (by decide) ?_; first | assumption | exact gs_s (by assumption) | (refine gs_n (by decide) ?_; assumption)))) rfl rfl ?_
  refine am_B.icmp_ge rfl rfl (fun _ => ?_) (fun z => absurd (by decide) z)
  refine am_B.run (hp := false) (sp := []) 200 rfl ?_
  exact am_B.iret rfl rfl rfl ⟨rfl, rfl⟩
set_option maxRecDepth 100000 in
set_option maxHeartbeats 4000000 in
theorem xx_live (h : am_H) (X : xF h) : am_Ct am_G0 m_TA_live 3 0 0 [.ref 1] h (fun v h' => v = some (.int (nI 0)) ∧ h' = hE h) := by
  have h1 := X.2.1
  have e1 := X.e1
  have e9 := X.e9
  have e11 := X.e11
  refine am_Ct.of (E := E_TA_live) e_TA_live (by decide) (Nat.le_of_ble_eq_true rfl) ?_
  refine am_B.run (hp := false) (sp := []) 200 rfl ?_
  refine am_B.callV (ci := 0) (n := 0) (as := []) rfl rfl rfl (xt_requireMarkings h X) rfl rfl (by exact Nat.le_of_ble_eq_true rfl) rfl h1 rfl rfl (fun v h' z => ?_)
  obtain ⟨rfl, rfl⟩ := z
  refine am_B.run (hp := false) (sp := []) 200 rfl ?_
  refine am_B.get rfl rfl rfl (by first | assumption | exact gs_s (by first | assumption | exact gs_s (by first | assumption | exact gs_s (by assumption) | (refine gs_n (by decide) ?_; assumption)) | (refine gs_n (by decide) ?_; first | assumption | exact gs_s (by assumption) | (refine gs_n (by decide) ?_; assumption))) | (refine gs_n (by decide) ?_; first | assumption | exact gs_s (by first | assumption | exact gs_s (by assumption) | (refine gs_n (by decide) ?_; assumption)) | (refine gs_n (by decide) ?_; first | assumption | exact gs_s (by assumption) | (refine gs_n (by decide) ?_; assumption)))) rfl rfl ?_
  refine am_B.get rfl rfl rfl (by first | assumption | exact gs_s (by first | assumption | exact gs_s (by first | assumption | exact gs_s (by assumption) | (refine gs_n (by decide) ?_; assumption)) | (refine gs_n (by decide) ?_; first | assumption | exact gs_s (by assumption) | (refine gs_n (by decide) ?_; assumption))) | (refine gs_n (by decide) ?_; first | assumption | exact gs_s (by first | assumption | exact gs_s (by assumption) | (refine gs_n (by decide) ?_; assumption)) | (refine gs_n (by decide) ?_; first | assumption | exact gs_s (by assumption) | (refine gs_n (by decide) ?_; assumption)))) rfl rfl ?_
  refine am_B.icmp_ge rfl rfl (fun z => absurd z (by decide)) (fun _ => ?_)
  refine am_B.run (hp := false) (sp := []) 200 rfl ?_
  refine am_B.get rfl rfl rfl (by first | assumption | exact gs_s (by first | assumption | exact gs_s (by first | assumption | exact gs_s (by assumption) | (refine gs_n (by decide) ?_; assumption)) | (refine gs_n (by decide) ?_; first | assumption | exact gs_s (by assumption) | (refine gs_n (by decide) ?_; assumption))) | (refine gs_n (by decide) ?_; first | assumption | exact gs_s (by first | assumption | exact gs_s (by assumption) | (refine gs_n (by decide) ?_; assumption)) | (refine gs_n (by decide) ?_; first | assumption | exact gs_s (by assumption) | (refine gs_n (by decide) ?_; assumption)))) rfl rfl ?_
  refine am_B.get rfl rfl rfl (by first | assumption | exact gs_s (by first | assumption | exact gs_s (by first | assumption | exact gs_s (by assumption) | (refine gs_n (by decide) ?_; assumption)) | (refine gs_n (by decide) ?_; first | assumption | exact gs_s (by assumption) | (refine gs_n (by decide) ?_; assumption))) | (refine gs_n (by decide) ?_; first | assumption | exact gs_s (by first | assumption | exact gs_s (by assumption) | (refine gs_n (by decide) ?_; assumption)) | (refine gs_n (by decide) ?_; first | assumption | exact gs_s (by assumption) | (refine gs_n (by decide) ?_; assumption)))) rfl rfl ?_
  refine am_B.run (hp := false) (sp := []) 200 rfl ?_
  refine am_B.ald rfl e11 (vp_n (show 0 < 200 by decide) rfl) rfl ?_
  rw [nI_clamp (show 0 < 2 ^ 31 by decide), upd_s]
  refine am_B.run (hp := false) (sp := []) 200 rfl ?_
  refine am_B.get rfl rfl rfl (by first | assumption | exact gs_s (by first | assumption | exact gs_s (by first | assumption | exact gs_s (by assumption) | (refine gs_n (by decide) ?_; assumption)) | (refine gs_n (by decide) ?_; first | assumption | exact gs_s (by assumption) | (refine gs_n (by decide) ?_; assumption))) | (refine gs_n (by decide) ?_; first | assumption | exact gs_s (by first | assumption | exact gs_s (by assumption) | (refine gs_n (by decide) ?_; assumption)) | (refine gs_n (by decide) ?_; first | assumption | exact gs_s (by assumption) | (refine gs_n (by decide) ?_; assumption)))) rfl rfl ?_
  refine am_B.get rfl rfl rfl (by first | assumption | exact gs_s (by first | assumption | exact gs_s (by first | assumption | exact gs_s (by assumption) | (refine gs_n (by decide) ?_; assumption)) | (refine gs_n (by decide) ?_; first | assumption | exact gs_s (by assumption) | (refine gs_n (by decide) ?_; assumption))) | (refine gs_n (by decide) ?_; first | assumption | exact gs_s (by first | assumption | exact gs_s (by assumption) | (refine gs_n (by decide) ?_; assumption)) | (refine gs_n (by decide) ?_; first | assumption | exact gs_s (by assumption) | (refine gs_n (by decide) ?_; assumption)))) rfl rfl ?_
  refine am_B.icmp_ge rfl rfl (fun _ => ?_) (fun z => absurd (by decide) z)
  refine am_B.run (hp := false) (sp := []) 200 rfl ?_
  exact am_B.iret rfl rfl rfl ⟨rfl, rfl⟩
set_option maxRecDepth 100000 in
set_option maxHeartbeats 4000000 in
theorem xt_relaxOnce (f : Nat) (h : am_H) (a b : Nat) (ex la pc : Int32) (h2 : h[2]? = some (c_NT pc (nI 0))) (h9 : h[9]? = some (c_MG ex (nI 1) la)) : am_Ct am_G0 m_MG_relaxOnce f 0 0 [.ref 9, .ref a, .ref b] h (fun v h' => v = some (.int (nI 0)) ∧ h' = h) := by
  refine am_Ct.of (E := E_MG_relaxOnce) e_MG_relaxOnce (by decide) (Nat.le_of_ble_eq_true rfl) ?_
  refine am_B.run (hp := false) (sp := []) 200 rfl ?_
  refine am_B.get rfl rfl rfl (by first | assumption | exact gs_s (by first | assumption | exact gs_s (by first | assumption | exact gs_s (by assumption) | (refine gs_n (by decide) ?_; assumption)) | (refine gs_n (by decide) ?_; first | assumption | exact gs_s (by assumption) | (refine gs_n (by decide) ?_; assumption))) | (refine gs_n (by decide) ?_; first | assumption | exact gs_s (by first | assumption | exact gs_s (by assumption) | (refine gs_n (by decide) ?_; assumption)) | (refine gs_n (by decide) ?_; first | assumption | exact gs_s (by assumption) | (refine gs_n (by decide) ?_; assumption)))) rfl rfl ?_
  refine am_B.run (hp := false) (sp := []) 200 rfl ?_
  refine am_B.if_lt rfl rfl (fun z => absurd z (by decide)) (fun _ => ?_)
  refine am_B.run (hp := false) (sp := []) 200 rfl ?_
  refine am_B.get rfl rfl rfl (by first | assumption | exact gs_s (by first | assumption | exact gs_s (by first | assumption | exact gs_s (by assumption) | (refine gs_n (by decide) ?_; assumption)) | (refine gs_n (by decide) ?_; first | assumption | exact gs_s (by assumption) | (refine gs_n (by decide) ?_; assumption))) | (refine gs_n (by decide) ?_; first | assumption | exact gs_s (by first | assumption | exact gs_s (by assumption) | (refine gs_n (by decide) ?_; assumption)) | (refine gs_n (by decide) ?_; first | assumption | exact gs_s (by assumption) | (refine gs_n (by decide) ?_; assumption)))) rfl rfl ?_
  refine am_B.get rfl rfl rfl (by first | assumption | exact gs_s (by first | assumption | exact gs_s (by first | assumption | exact gs_s (by assumption) | (refine gs_n (by decide) ?_; assumption)) | (refine gs_n (by decide) ?_; first | assumption | exact gs_s (by assumption) | (refine gs_n (by decide) ?_; assumption))) | (refine gs_n (by decide) ?_; first | assumption | exact gs_s (by first | assumption | exact gs_s (by assumption) | (refine gs_n (by decide) ?_; assumption)) | (refine gs_n (by decide) ?_; first | assumption | exact gs_s (by assumption) | (refine gs_n (by decide) ?_; assumption)))) rfl rfl ?_
  refine am_B.icmp_ge rfl rfl (fun _ => ?_) (fun z => absurd (by decide) z)
  refine am_B.run (hp := false) (sp := []) 200 rfl ?_
  refine am_B.if_lt rfl rfl (fun _ => ?_) (fun z => absurd (by decide) z)
  refine am_B.run (hp := false) (sp := []) 200 rfl ?_
  exact am_B.zret rfl rfl rfl rfl ⟨rfl, rfl⟩
set_option maxRecDepth 100000 in
set_option maxHeartbeats 4000000 in
theorem xt_relax (h : am_H) (a b : Nat) (ex la pc : Int32) (h2 : h[2]? = some (c_NT pc (nI 0))) (h9 : h[9]? = some (c_MG ex (nI 1) la)) : am_Ct am_G0 m_MG_relax 1 0 0 [.ref 9, .ref a, .ref b] h (fun v h' => v = none ∧ h' = h) := by
  refine am_Ct.of (E := E_MG_relax) e_MG_relax (by decide) (Nat.le_of_ble_eq_true rfl) ?_
  refine am_B.run (hp := false) (sp := []) 200 rfl ?_
  refine am_B.get rfl rfl rfl (by first | assumption | exact gs_s (by first | assumption | exact gs_s (by first | assumption | exact gs_s (by assumption) | (refine gs_n (by decide) ?_; assumption)) | (refine gs_n (by decide) ?_; first | assumption | exact gs_s (by assumption) | (refine gs_n (by decide) ?_; assumption))) | (refine gs_n (by decide) ?_; first | assumption | exact gs_s (by first | assumption | exact gs_s (by assumption) | (refine gs_n (by decide) ?_; assumption)) | (refine gs_n (by decide) ?_; first | assumption | exact gs_s (by assumption) | (refine gs_n (by decide) ?_; assumption)))) rfl rfl ?_
  refine am_B.icmp_ge rfl rfl (fun z => absurd z (by decide)) (fun _ => ?_)
  refine am_B.run (hp := false) (sp := []) 200 rfl ?_
  refine am_B.callV (ci := 2) (n := 2) (as := [.ref a, .ref b]) rfl rfl rfl (xt_relaxOnce 0 h a b ex la pc h2 h9) rfl rfl (by exact Nat.le_of_ble_eq_true rfl) rfl h9 rfl rfl (fun v h' z => ?_)
  obtain ⟨rfl, rfl⟩ := z
  refine am_B.if_ne rfl rfl (fun z => absurd rfl z) (fun _ => ?_)
  exact am_B.vret rfl rfl rfl ⟨rfl, rfl⟩
set_option maxRecDepth 100000 in
set_option maxHeartbeats 4000000 in
theorem xt_weighEnd (h : am_H) (ex pc : Int32) (g : Nat → Int32) (h2 : h[2]? = some (c_NT pc (nI 0))) (h9 : h[9]? = some (c_MG ex (nI 1) (nI 0))) (h14 : h[14]? = some c_PF) (h17 : h[17]? = some (ia 200 g)) : am_Ct am_G0 m_PF_weighEnd 2 0 0 [.ref 14, .ref 17] h (fun v h' => v = none ∧ ∃ g', h' = h.set 17 (ia 200 g') ∧ g' 0 = nI 0) := by
  refine am_Ct.of (E := E_PF_weighEnd) e_PF_weighEnd (by decide) (Nat.le_of_ble_eq_true rfl) ?_
  refine am_B.run (hp := false) (sp := []) 200 rfl ?_
  refine am_B.callS (ci := 0) (n := 2) (as := [.ref 17, .int (nI 1073741824)]) rfl rfl rfl (ct_AR_fill 0 _ 17 200 g (nI 1073741824) h17 (by decide)) rfl rfl (by exact Nat.le_of_ble_eq_true rfl) rfl rfl rfl (fun v h' z => ?_)
  obtain ⟨rfl, rfl⟩ := z
  refine am_B.run (hp := false) (sp := []) 200 rfl ?_
  refine am_B.get rfl rfl rfl (by first | assumption | exact gs_s (by first | assumption | exact gs_s (by first | assumption | exact gs_s (by assumption) | (refine gs_n (by decide) ?_; assumption)) | (refine gs_n (by decide) ?_; first | assumption | exact gs_s (by assumption) | (refine gs_n (by decide) ?_; assumption))) | (refine gs_n (by decide) ?_; first | assumption | exact gs_s (by first | assumption | exact gs_s (by assumption) | (refine gs_n (by decide) ?_; assumption)) | (refine gs_n (by decide) ?_; first | assumption | exact gs_s (by assumption) | (refine gs_n (by decide) ?_; assumption)))) rfl rfl ?_
  refine am_B.get rfl rfl rfl (by first | assumption | exact gs_s (by first | assumption | exact gs_s (by first | assumption | exact gs_s (by assumption) | (refine gs_n (by decide) ?_; assumption)) | (refine gs_n (by decide) ?_; first | assumption | exact gs_s (by assumption) | (refine gs_n (by decide) ?_; assumption))) | (refine gs_n (by decide) ?_; first | assumption | exact gs_s (by first | assumption | exact gs_s (by assumption) | (refine gs_n (by decide) ?_; assumption)) | (refine gs_n (by decide) ?_; first | assumption | exact gs_s (by assumption) | (refine gs_n (by decide) ?_; assumption)))) rfl rfl ?_
  refine am_B.run (hp := false) (sp := []) 200 rfl ?_
  refine am_B.icmp_eq rfl rfl (fun z => absurd z (by decide)) (fun _ => ?_)
  refine am_B.run (hp := false) (sp := []) 200 rfl ?_
  refine am_B.get rfl rfl rfl (by first | assumption | exact gs_s (by first | assumption | exact gs_s (by first | assumption | exact gs_s (by assumption) | (refine gs_n (by decide) ?_; assumption)) | (refine gs_n (by decide) ?_; first | assumption | exact gs_s (by assumption) | (refine gs_n (by decide) ?_; assumption))) | (refine gs_n (by decide) ?_; first | assumption | exact gs_s (by first | assumption | exact gs_s (by assumption) | (refine gs_n (by decide) ?_; assumption)) | (refine gs_n (by decide) ?_; first | assumption | exact gs_s (by assumption) | (refine gs_n (by decide) ?_; assumption)))) rfl rfl ?_
  refine am_B.get rfl rfl rfl (by first | assumption | exact gs_s (by first | assumption | exact gs_s (by first | assumption | exact gs_s (by assumption) | (refine gs_n (by decide) ?_; assumption)) | (refine gs_n (by decide) ?_; first | assumption | exact gs_s (by assumption) | (refine gs_n (by decide) ?_; assumption))) | (refine gs_n (by decide) ?_; first | assumption | exact gs_s (by first | assumption | exact gs_s (by assumption) | (refine gs_n (by decide) ?_; assumption)) | (refine gs_n (by decide) ?_; first | assumption | exact gs_s (by assumption) | (refine gs_n (by decide) ?_; assumption)))) rfl rfl ?_
  refine am_B.run (hp := false) (sp := []) 200 rfl ?_
  refine am_B.ast rfl (gs_s h17) (vp_n (show 0 < 200 by decide) rfl) rfl ?_
  rw [nI_clamp (show 0 < 2 ^ 31 by decide), gs_ss]
  refine am_B.run (hp := false) (sp := []) 200 rfl ?_
  refine am_B.get rfl rfl rfl (by first | assumption | exact gs_s (by first | assumption | exact gs_s (by first | assumption | exact gs_s (by assumption) | (refine gs_n (by decide) ?_; assumption)) | (refine gs_n (by decide) ?_; first | assumption | exact gs_s (by assumption) | (refine gs_n (by decide) ?_; assumption))) | (refine gs_n (by decide) ?_; first | assumption | exact gs_s (by first | assumption | exact gs_s (by assumption) | (refine gs_n (by decide) ?_; assumption)) | (refine gs_n (by decide) ?_; first | assumption | exact gs_s (by assumption) | (refine gs_n (by decide) ?_; assumption)))) rfl rfl ?_
  refine am_B.run (hp := false) (sp := []) 200 rfl ?_
  refine am_B.get rfl rfl rfl (by first | assumption | exact gs_s (by first | assumption | exact gs_s (by first | assumption | exact gs_s (by assumption) | (refine gs_n (by decide) ?_; assumption)) | (refine gs_n (by decide) ?_; first | assumption | exact gs_s (by assumption) | (refine gs_n (by decide) ?_; assumption))) | (refine gs_n (by decide) ?_; first | assumption | exact gs_s (by first | assumption | exact gs_s (by assumption) | (refine gs_n (by decide) ?_; assumption)) | (refine gs_n (by decide) ?_; first | assumption | exact gs_s (by assumption) | (refine gs_n (by decide) ?_; assumption)))) rfl rfl ?_
  refine am_B.callV (ci := 2) (n := 2) (as := [.ref 17, .ref 15]) rfl rfl rfl (xt_relax _ 17 15 ex (nI 0) pc (gs_n (by decide) h2) (gs_n (by decide) h9)) rfl rfl (by exact Nat.le_of_ble_eq_true rfl) rfl (gs_n (by decide) h9) rfl rfl (fun v h' z => ?_)
  obtain ⟨rfl, rfl⟩ := z
  exact am_B.vret rfl rfl rfl ⟨rfl, _, rfl, upd_s⟩
theorem rs_get {j : Nat} (hj : j < 9) : am_aget .aaload 5 (9, .inr (.inr (.inr (.inr rs_)))) (nI j).toNatClampNeg = some (.ref (17 + j)) := by
  rw [nI_clamp (by omega)]
  show some (am_rv rs_ j) = _
  unfold am_rv rs_
  rw [if_pos hj]
set_option maxRecDepth 100000 in
set_option maxHeartbeats 4000000 in
theorem xt_steps (h : am_H) (ex pc : Int32) (g g15 : Nat → Int32) (h2 : h[2]? = some (c_NT pc (nI 0))) (h9 : h[9]? = some (c_MG ex (nI 1) (nI 0))) (h14 : h[14]? = some c_PF) (h15 : h[15]? = some (ia 10 g15)) (h16 : h[16]? = some (ra 5 9 rs_)) (h17 : h[17]? = some (ia 200 g)) : am_Ct am_G0 m_PF_stepsToLast 3 0 0 [.ref 14, .int (nI 0)] h (fun v h' => v = some (.int (nI 0)) ∧ ∃ x y, h' = (h.set 15 x).set 17 y) := by
  refine am_Ct.of (E := E_PF_stepsToLast) e_PF_stepsToLast (by decide) (Nat.le_of_ble_eq_true rfl) ?_
  refine am_B.run (hp := false) (sp := []) 200 rfl ?_
  refine am_B.get rfl rfl rfl (by first | assumption | exact gs_s (by first | assumption | exact gs_s (by first | assumption | exact gs_s (by assumption) | (refine gs_n (by decide) ?_; assumption)) | (refine gs_n (by decide) ?_; first | assumption | exact gs_s (by assumption) | (refine gs_n (by decide) ?_; assumption))) | (refine gs_n (by decide) ?_; first | assumption | exact gs_s (by first | assumption | exact gs_s (by assumption) | (refine gs_n (by decide) ?_; assumption)) | (refine gs_n (by decide) ?_; first | assumption | exact gs_s (by assumption) | (refine gs_n (by decide) ?_; assumption)))) rfl rfl ?_
  refine am_B.run (hp := false) (sp := []) 200 rfl ?_
  refine am_B.callS (ci := 0) (n := 2) (as := [.ref 15, .int (nI 1)]) rfl rfl rfl (ct_AR_fill 0 _ 15 10 g15 (nI 1) h15 (by decide)) rfl rfl (by exact Nat.le_of_ble_eq_true rfl) rfl rfl rfl (fun v h' z => ?_)
  obtain ⟨rfl, rfl⟩ := z
  refine am_B.run (hp := false) (sp := []) 200 rfl ?_
  refine am_B.get rfl rfl rfl (by first | assumption | exact gs_s (by first | assumption | exact gs_s (by first | assumption | exact gs_s (by assumption) | (refine gs_n (by decide) ?_; assumption)) | (refine gs_n (by decide) ?_; first | assumption | exact gs_s (by assumption) | (refine gs_n (by decide) ?_; assumption))) | (refine gs_n (by decide) ?_; first | assumption | exact gs_s (by first | assumption | exact gs_s (by assumption) | (refine gs_n (by decide) ?_; assumption)) | (refine gs_n (by decide) ?_; first | assumption | exact gs_s (by assumption) | (refine gs_n (by decide) ?_; assumption)))) rfl rfl ?_
  refine am_B.run (hp := false) (sp := []) 200 rfl ?_
  refine am_B.ald rfl (gs_n (by decide) h16) (vp_n (show 0 < 9 by decide) rfl) (rs_get (show 0 < 9 by decide)) ?_
  refine am_B.callV (ci := 3) (n := 1) (as := [.ref (17 + 0)]) rfl rfl rfl (xt_weighEnd _ ex pc g (gs_n (by decide) h2) (gs_n (by decide) h9) (gs_n (by decide) h14) (gs_n (by decide) h17)) rfl rfl (by exact Nat.le_of_ble_eq_true rfl) rfl (gs_n (by decide) h14) rfl rfl (fun v h' z => ?_)
  obtain ⟨rfl, g', rfl, hg⟩ := z
  have q14 : ((h.set 15 (ia 10 fun j => if j < 10 then nI 1 else g15 j)).set 17 (ia 200 g'))[14]? = some c_PF := gs_n (by decide) (gs_n (by decide) h14)
  have q16 : ((h.set 15 (ia 10 fun j => if j < 10 then nI 1 else g15 j)).set 17 (ia 200 g'))[16]? = some (ra 5 9 rs_) := gs_n (by decide) (gs_n (by decide) h16)
  have q17 : ((h.set 15 (ia 10 fun j => if j < 10 then nI 1 else g15 j)).set 17 (ia 200 g'))[17 + 0]? = some (ia 200 g') := gs_s (gs_n (by decide) h17)
  refine am_B.run (hp := false) (sp := []) 200 rfl ?_
  refine am_B.get rfl rfl rfl (by first | assumption | exact gs_s (by first | assumption | exact gs_s (by first | assumption | exact gs_s (by assumption) | (refine gs_n (by decide) ?_; assumption)) | (refine gs_n (by decide) ?_; first | assumption | exact gs_s (by assumption) | (refine gs_n (by decide) ?_; assumption))) | (refine gs_n (by decide) ?_; first | assumption | exact gs_s (by first | assumption | exact gs_s (by assumption) | (refine gs_n (by decide) ?_; assumption)) | (refine gs_n (by decide) ?_; first | assumption | exact gs_s (by assumption) | (refine gs_n (by decide) ?_; assumption)))) rfl rfl ?_
  refine am_B.run (hp := false) (sp := []) 200 rfl ?_
  refine am_B.ald rfl q16 (vp_n (show 0 < 9 by decide) rfl) (rs_get (show 0 < 9 by decide)) ?_
  refine am_B.run (hp := false) (sp := []) 200 rfl ?_
  refine am_B.ald rfl q17 (vp_n (show 0 < 200 by decide) rfl) rfl ?_
  rw [nI_clamp (show 0 < 2 ^ 31 by decide), hg]
  refine am_B.run (hp := false) (sp := []) 200 rfl ?_
  refine am_B.icmp_ne rfl rfl (fun _ => ?_) (fun z => absurd z (by decide))
  refine am_B.run (hp := false) (sp := []) 200 rfl ?_
  refine am_B.get rfl rfl rfl (by first | assumption | exact gs_s (by first | assumption | exact gs_s (by first | assumption | exact gs_s (by assumption) | (refine gs_n (by decide) ?_; assumption)) | (refine gs_n (by decide) ?_; first | assumption | exact gs_s (by assumption) | (refine gs_n (by decide) ?_; assumption))) | (refine gs_n (by decide) ?_; first | assumption | exact gs_s (by first | assumption | exact gs_s (by assumption) | (refine gs_n (by decide) ?_; assumption)) | (refine gs_n (by decide) ?_; first | assumption | exact gs_s (by assumption) | (refine gs_n (by decide) ?_; assumption)))) rfl rfl ?_
  refine am_B.run (hp := false) (sp := []) 200 rfl ?_
  refine am_B.ald rfl q16 (vp_n (show 0 < 9 by decide) rfl) (rs_get (show 0 < 9 by decide)) ?_
  refine am_B.run (hp := false) (sp := []) 200 rfl ?_
  refine am_B.ald rfl q17 (vp_n (show 0 < 200 by decide) rfl) rfl ?_
  rw [nI_clamp (show 0 < 2 ^ 31 by decide), hg]
  exact am_B.iret rfl rfl rfl ⟨rfl, _, _, rfl⟩
set_option maxRecDepth 100000 in
set_option maxHeartbeats 4000000 in
theorem xx_away0 (h : am_H) (X : xF h) : am_Ct am_G0 m_TA_away 4 0 0 [.ref 1, .int (nI 0)] h (fun v h' => v = some (.int (nI 0)) ∧ ∃ x y, h' = ((hE h).set 15 x).set 17 y) := by
  have h1 := X.2.1
  have e1 := X.e1
  have e9 := X.e9
  have h14 : (hE h)[14]? = some c_PF := xF.eo (by decide) X.2.2.2.2.2.2.2.2.2.2.2.2.1
  have h15 : (hE h)[15]? = some (z_ 10) := xF.eo (by decide) X.2.2.2.2.2.2.2.2.2.2.2.2.2.1
  have h16 : (hE h)[16]? = some (ra 5 9 rs_) := xF.eo (by decide) X.2.2.2.2.2.2.2.2.2.2.2.2.2.2.1
  have h17 : (hE h)[17]? = some (z_ 200) := xF.eo (by decide) X.2.2.2.2.2.2.2.2.2.2.2.2.2.2.2.1
  refine am_Ct.of (E := E_TA_away) e_TA_away (by decide) (Nat.le_of_ble_eq_true rfl) ?_
  refine am_B.run (hp := false) (sp := []) 200 rfl ?_
  refine am_B.callV (ci := 0) (n := 0) (as := []) rfl rfl rfl (xt_requireMarkings h X) rfl rfl (by exact Nat.le_of_ble_eq_true rfl) rfl h1 rfl rfl (fun v h' z => ?_)
  obtain ⟨rfl, rfl⟩ := z
  refine am_B.run (hp := false) (sp := []) 200 rfl ?_
  refine am_B.callV (ci := 0) (n := 1) (as := [.int (nI 0)]) rfl rfl rfl (ct_TA_requireMarking 0 _ 0 1 (nI 0) (nI 0) (nI 1) (nI 0) (by decide) (by decide) X.e1 X.e9) rfl rfl (by exact Nat.le_of_ble_eq_true rfl) rfl X.e1 rfl rfl (fun v h' z => ?_)
  obtain ⟨rfl, rfl⟩ := z
  refine am_B.run (hp := false) (sp := []) 200 rfl ?_
  refine am_B.get rfl rfl rfl (by first | assumption | exact gs_s (by first | assumption | exact gs_s (by first | assumption | exact gs_s (by assumption) | (refine gs_n (by decide) ?_; assumption)) | (refine gs_n (by decide) ?_; first | assumption | exact gs_s (by assumption) | (refine gs_n (by decide) ?_; assumption))) | (refine gs_n (by decide) ?_; first | assumption | exact gs_s (by first | assumption | exact gs_s (by assumption) | (refine gs_n (by decide) ?_; assumption)) | (refine gs_n (by decide) ?_; first | assumption | exact gs_s (by assumption) | (refine gs_n (by decide) ?_; assumption)))) rfl rfl ?_
  refine am_B.run (hp := false) (sp := []) 200 rfl ?_
  refine am_B.callV (ci := 3) (n := 1) (as := [.int (nI 0)]) rfl rfl rfl (xt_steps (hE h) (nI 1) (nI 0) _ _ X.e2 X.e9 h14 h15 h16 h17) rfl rfl (by exact Nat.le_of_ble_eq_true rfl) rfl h14 rfl rfl (fun v h' z => ?_)
  obtain ⟨rfl, z⟩ := z
  exact am_B.iret rfl rfl rfl ⟨rfl, z⟩
set_option maxRecDepth 100000 in
set_option maxHeartbeats 4000000 in
theorem xx_setLabelCost (h : am_H) (X : xF h) (K : calm h) (l c : Nat) (hl : l < 6) (hc : c ≤ 9) : am_Ct am_G0 m_TA_setLabelCost 1 0 0 [.ref 1, .int (nI l), .int (nI c)] h (fun v h' => v = some (.int (nI 1)) ∧ ∃ x, h' = h.set 13 x) := by
  have h1 := X.2.1
  obtain ⟨g, hg, h13⟩ : ∃ g : Nat → Int32, g l = nI 1 ∧ h[13]? = some (ia 6 g) := ⟨fun j => if j < 6 then nI 1 else 0, if_pos hl, X.2.2.2.2.2.2.2.2.2.2.2.1⟩
  refine am_Ct.of (E := E_TA_setLabelCost) e_TA_setLabelCost (by decide) (Nat.le_of_ble_eq_true rfl) ?_
  refine am_B.run (hp := false) (sp := []) 200 rfl ?_
  refine am_B.callS (n := 1) (as := [.int (nI l)]) rfl rfl rfl (ct_TA_isNoLabel 0 h l hl) rfl rfl (by exact Nat.le_of_ble_eq_true rfl) rfl rfl rfl (fun v h' z => ?_)
  obtain ⟨rfl, rfl⟩ := z
  refine am_B.if_eq rfl rfl (fun _ => ?_) (fun z => absurd rfl z)
  refine am_B.run (hp := false) (sp := []) 200 rfl ?_
  refine am_B.callS (n := 1) (as := [.int (nI c)]) rfl rfl rfl (ct_TA_requireCost 0 _ c hc) rfl rfl (by exact Nat.le_of_ble_eq_true rfl) rfl rfl rfl (fun v h' z => ?_)
  obtain ⟨rfl, rfl⟩ := z
  refine am_B.run (hp := false) (sp := []) 200 rfl ?_
  refine am_B.callV (ci := 0) (n := 0) (as := []) rfl rfl rfl (ct_TA_forgetAlignments 0 _ (nI 0) (nI 0) h1 K) rfl rfl (by exact Nat.le_of_ble_eq_true rfl) rfl h1 rfl rfl (fun v h' z => ?_)
  obtain ⟨rfl, rfl⟩ := z
  refine am_B.run (hp := false) (sp := []) 200 rfl ?_
  refine am_B.get rfl rfl rfl (by first | assumption | exact gs_s (by first | assumption | exact gs_s (by first | assumption | exact gs_s (by assumption) | (refine gs_n (by decide) ?_; assumption)) | (refine gs_n (by decide) ?_; first | assumption | exact gs_s (by assumption) | (refine gs_n (by decide) ?_; assumption))) | (refine gs_n (by decide) ?_; first | assumption | exact gs_s (by first | assumption | exact gs_s (by assumption) | (refine gs_n (by decide) ?_; assumption)) | (refine gs_n (by decide) ?_; first | assumption | exact gs_s (by assumption) | (refine gs_n (by decide) ?_; assumption)))) rfl rfl ?_
  refine am_B.run (hp := false) (sp := []) 200 rfl ?_
  refine am_B.ald rfl h13 (vp_n hl rfl) rfl ?_
  rw [nI_clamp (show l < 2 ^ 31 by omega), hg]
  refine am_B.run (hp := false) (sp := []) 200 rfl ?_
  refine am_B.get rfl rfl rfl (by first | assumption | exact gs_s (by first | assumption | exact gs_s (by first | assumption | exact gs_s (by assumption) | (refine gs_n (by decide) ?_; assumption)) | (refine gs_n (by decide) ?_; first | assumption | exact gs_s (by assumption) | (refine gs_n (by decide) ?_; assumption))) | (refine gs_n (by decide) ?_; first | assumption | exact gs_s (by first | assumption | exact gs_s (by assumption) | (refine gs_n (by decide) ?_; assumption)) | (refine gs_n (by decide) ?_; first | assumption | exact gs_s (by assumption) | (refine gs_n (by decide) ?_; assumption)))) rfl rfl ?_
  refine am_B.run (hp := false) (sp := []) 200 rfl ?_
  refine am_B.ast rfl h13 (vp_n hl rfl) rfl ?_
  refine am_B.run (hp := false) (sp := []) 200 rfl ?_
  exact am_B.iret rfl rfl rfl ⟨rfl, _, rfl⟩
set_option maxRecDepth 100000 in
set_option maxHeartbeats 4000000 in
theorem xx_total (h : am_H) (X : xF h) (l : Nat) (hl : l < 6) : am_Ct am_G0 m_TA_total 3 0 0 [.ref 1, .int (nI 1), .int (nI l)] h (fun v h' => v = some (.int (nI 0)) ∧ h' = hE h) := by
  have h1 := X.2.1
  have e1 := X.e1
  refine am_Ct.of (E := E_TA_total) e_TA_total (by decide) (Nat.le_of_ble_eq_true rfl) ?_
  refine am_B.run (hp := false) (sp := []) 200 rfl ?_
  refine am_B.if_lt rfl rfl (fun z => absurd z (by decide)) (fun _ => ?_)
  refine am_B.run (hp := false) (sp := []) 200 rfl ?_
  refine am_B.icmp_le rfl rfl (fun _ => ?_) (fun z => absurd (by decide) z)
  refine am_B.run (hp := false) (sp := []) 200 rfl ?_
  refine am_B.if_lt rfl rfl (fun z => absurd z (nI_nlt (Nat.zero_le _) (by omega))) (fun _ => ?_)
  refine am_B.run (hp := false) (sp := []) 200 rfl ?_
  refine am_B.icmp_ne rfl rfl (fun z => absurd rfl z) (fun _ => ?_)
  refine am_B.run (hp := false) (sp := []) 200 rfl ?_
  refine am_B.icmp_lt rfl rfl (fun _ => ?_) (fun z => absurd (nI_lt hl (by decide)) z)
  refine am_B.run (hp := false) (sp := []) 200 rfl ?_
  refine am_B.callV (ci := 0) (n := 0) (as := []) rfl rfl rfl (xt_requireMarkings h X) rfl rfl (by exact Nat.le_of_ble_eq_true rfl) rfl h1 rfl rfl (fun v h' z => ?_)
  obtain ⟨rfl, rfl⟩ := z
  refine am_B.run (hp := false) (sp := []) 200 rfl ?_
  refine am_B.get rfl rfl rfl (by first | assumption | exact gs_s (by first | assumption | exact gs_s (by first | assumption | exact gs_s (by assumption) | (refine gs_n (by decide) ?_; assumption)) | (refine gs_n (by decide) ?_; first | assumption | exact gs_s (by assumption) | (refine gs_n (by decide) ?_; assumption))) | (refine gs_n (by decide) ?_; first | assumption | exact gs_s (by first | assumption | exact gs_s (by assumption) | (refine gs_n (by decide) ?_; assumption)) | (refine gs_n (by decide) ?_; first | assumption | exact gs_s (by assumption) | (refine gs_n (by decide) ?_; assumption)))) rfl rfl ?_
  refine am_B.icmp_ge rfl rfl (fun _ => ?_) (fun z => absurd (by decide) z)
  refine am_B.run (hp := false) (sp := []) 200 rfl ?_
  exact am_B.iret rfl rfl rfl ⟨rfl, rfl⟩
set_option maxRecDepth 100000 in
set_option maxHeartbeats 4000000 in
theorem xx_totalX (h : am_H) (X : xF h) (a b : Int32) (hab : xbad a 3 ∨ (∃ k, k < 3 ∧ a = nI k ∧ ((k = 1 ∧ xbad b 6) ∨ k ≠ 1))) : am_CtX am_G0 m_TA_total 7 1 6 [.ref 1, .int a, .int b] h (fun _ _ => False) (xo "java/lang/IndexOutOfBoundsException" h) := by
  have h1 := X.2.1
  have h2 := X.2.2.1
  refine am_CtX.of (E := E_TA_total) e_TA_total (by decide) (Nat.le_of_ble_eq_true rfl) ?_
  have J9 : ∀ l3 l4 : Option Value, am_B E_TA_total (am_rm 7 1 6) (am_ZX E_TA_total 1 6 (fun _ _ => False) (xo "java/lang/IndexOutOfBoundsException" h)) 9 [some (.ref 1), some (.int a), some (.int b), l3, l4] [] h 1 6 := by
    intro l3 l4
    exact am_B.thr (rc := 0) (rs := 0) (cls := "java/lang/IndexOutOfBoundsException") (names := x_nm) rfl rfl rfl rfl rfl rfl rfl rfl rfl rfl x_fO x_fn x_wO (List.mem_of_getElem? (i := 19) rfl) (by decide) (by decide) (fun d => ⟨rfl, d, rfl⟩)
  have J44 : ∀ l3 l4 : Option Value, am_B E_TA_total (am_rm 7 1 6) (am_ZX E_TA_total 1 6 (fun _ _ => False) (xo "java/lang/IndexOutOfBoundsException" h)) 44 [some (.ref 1), some (.int a), some (.int b), l3, l4] [] h 1 6 := by
    intro l3 l4
    exact am_B.thr (rc := 0) (rs := 0) (cls := "java/lang/IndexOutOfBoundsException") (names := x_nm) rfl rfl rfl rfl rfl rfl rfl rfl rfl rfl x_fO x_fn x_wO (List.mem_of_getElem? (i := 20) rfl) (by decide) (by decide) (fun d => ⟨rfl, d, rfl⟩)
  refine am_B.run (hp := false) (sp := []) 200 rfl ?_
  rcases hab with (ha | ⟨j, q1, q2, rfl⟩) | ⟨k, hk, rfl, hb⟩
  · exact am_B.if_lt rfl rfl (fun _ => J9 _ _) (fun z => absurd ha z)
  · refine am_B.if_lt rfl rfl (fun z => absurd z (nI_nlt (Nat.zero_le _) q2)) (fun _ => ?_)
    refine am_B.run (hp := false) (sp := []) 200 rfl ?_
    exact am_B.icmp_le rfl rfl (fun z => absurd (Int32.not_lt.mpr z) (fun q => q (nI_lt (show 2 < j by omega) q2))) (fun _ => J9 _ _)
  · refine am_B.if_lt rfl rfl (fun z => absurd z (nI_nlt (Nat.zero_le _) (by omega))) (fun _ => ?_)
    refine am_B.run (hp := false) (sp := []) 200 rfl ?_
    refine am_B.icmp_le rfl rfl (fun _ => ?_) (fun z => absurd (nI_le (show k ≤ 2 by omega) (by decide)) z)
    refine am_B.run (hp := false) (sp := []) 200 rfl ?_
    have lim : ∀ n, xbad b n → ∀ l3 l4 : Option Value, am_B E_TA_total (am_rm 7 1 6) (am_ZX E_TA_total 1 6 (fun _ _ => False) (xo "java/lang/IndexOutOfBoundsException" h)) 41 [some (.ref 1), some (.int (nI k)), some (.int b), l3, l4] [.int (nI n), .int b] h 1 6 → True := fun _ _ _ _ _ => trivial
    rcases hb with ⟨rfl, hb⟩ | hk1
    · rcases hb with hb | ⟨j, q1, q2, rfl⟩
      · exact am_B.if_lt rfl rfl (fun _ => J44 _ _) (fun z => absurd hb z)
      · refine am_B.if_lt rfl rfl (fun z => absurd z (nI_nlt (Nat.zero_le _) q2)) (fun _ => ?_)
        refine am_B.run (hp := false) (sp := []) 200 rfl ?_
        refine am_B.icmp_ne rfl rfl (fun z => absurd rfl z) (fun _ => ?_)
        refine am_B.run (hp := false) (sp := []) 200 rfl ?_
        exact am_B.icmp_lt rfl rfl (fun z => absurd z (nI_nlt q1 q2)) (fun _ => J44 _ _)
    · rcases xbad_0 b with hb | ⟨j, q1, q2, rfl⟩
      · exact am_B.if_lt rfl rfl (fun _ => J44 _ _) (fun z => absurd hb z)
      · refine am_B.if_lt rfl rfl (fun z => absurd z (nI_nlt (Nat.zero_le _) q2)) (fun _ => ?_)
        refine am_B.run (hp := false) (sp := []) 200 rfl ?_
        refine am_B.icmp_ne rfl rfl (fun _ => ?_) (fun z => absurd ((nI_eq (by omega) (by decide)).mp z) hk1)
        refine am_B.run (hp := false) (sp := []) 200 rfl ?_
        refine am_B.get rfl rfl rfl (by first | assumption | exact gs_s (by first | assumption | exact gs_s (by first | assumption | exact gs_s (by assumption) | (refine gs_n (by decide) ?_; assumption)) | (refine gs_n (by decide) ?_; first | assumption | exact gs_s (by assumption) | (refine gs_n (by decide) ?_; assumption))) | (refine gs_n (by decide) ?_; first | assumption | exact gs_s (by first | assumption | exact gs_s (by assumption) | (refine gs_n (by decide) ?_; assumption)) | (refine gs_n (by decide) ?_; first | assumption | exact gs_s (by assumption) | (refine gs_n (by decide) ?_; assumption)))) rfl rfl ?_
        refine am_B.get rfl rfl rfl (by first | assumption | exact gs_s (by first | assumption | exact gs_s (by first | assumption | exact gs_s (by assumption) | (refine gs_n (by decide) ?_; assumption)) | (refine gs_n (by decide) ?_; first | assumption | exact gs_s (by assumption) | (refine gs_n (by decide) ?_; assumption))) | (refine gs_n (by decide) ?_; first | assumption | exact gs_s (by first | assumption | exact gs_s (by assumption) | (refine gs_n (by decide) ?_; assumption)) | (refine gs_n (by decide) ?_; first | assumption | exact gs_s (by assumption) | (refine gs_n (by decide) ?_; assumption)))) rfl rfl ?_
        exact am_B.icmp_lt rfl rfl (fun z => absurd z (nI_nlt q1 q2)) (fun _ => J44 _ _)
set_option maxRecDepth 100000 in
set_option maxHeartbeats 4000000 in
theorem xt_fitnessOf (f : Nat) (h : am_H) (a : Int32) : am_Ct am_G0 m_TA_fitnessOf f 0 0 [.int a, .int (nI 0)] h (fun v h' => v = some (.double FP.dconst1) ∧ h' = h) := by
  refine am_Ct.of (E := E_TA_fitnessOf) e_TA_fitnessOf (by decide) (Nat.le_of_ble_eq_true rfl) ?_
  refine am_B.run (hp := false) (sp := []) 200 rfl ?_
  refine am_B.if_ne rfl rfl (fun z => absurd rfl z) (fun _ => ?_)
  refine am_B.run (hp := false) (sp := []) 200 rfl ?_
  exact am_B.dret rfl rfl rfl ⟨rfl, rfl⟩
set_option maxRecDepth 100000 in
set_option maxHeartbeats 4000000 in
theorem xx_allFitness (h : am_H) (X : xF h) : am_Ct am_G0 m_TA_allFitness 3 0 0 [.ref 1] h (fun v h' => v = some (.double FP.dconst1) ∧ h' = hE h) := by
  have h1 := X.2.1
  have e1 := X.e1
  refine am_Ct.of (E := E_TA_allFitness) e_TA_allFitness (by decide) (Nat.le_of_ble_eq_true rfl) ?_
  refine am_B.run (hp := false) (sp := []) 200 rfl ?_
  refine am_B.callV (ci := 0) (n := 0) (as := []) rfl rfl rfl (xt_requireMarkings h X) rfl rfl (by exact Nat.le_of_ble_eq_true rfl) rfl h1 rfl rfl (fun v h' z => ?_)
  obtain ⟨rfl, rfl⟩ := z
  refine am_B.run (hp := false) (sp := []) 200 rfl ?_
  refine am_B.get rfl rfl rfl (by first | assumption | exact gs_s (by first | assumption | exact gs_s (by first | assumption | exact gs_s (by assumption) | (refine gs_n (by decide) ?_; assumption)) | (refine gs_n (by decide) ?_; first | assumption | exact gs_s (by assumption) | (refine gs_n (by decide) ?_; assumption))) | (refine gs_n (by decide) ?_; first | assumption | exact gs_s (by first | assumption | exact gs_s (by assumption) | (refine gs_n (by decide) ?_; assumption)) | (refine gs_n (by decide) ?_; first | assumption | exact gs_s (by assumption) | (refine gs_n (by decide) ?_; assumption)))) rfl rfl ?_
  refine am_B.icmp_ge rfl rfl (fun _ => ?_) (fun z => absurd (by decide) z)
  refine am_B.run (hp := false) (sp := []) 200 rfl ?_
  refine am_B.callS (n := 2) (as := [.int (nI 0), .int (nI 0)]) rfl rfl rfl (xt_fitnessOf 0 _ (nI 0)) rfl rfl (by exact Nat.le_of_ble_eq_true rfl) rfl rfl rfl (fun v h' z => ?_)
  obtain ⟨rfl, rfl⟩ := z
  exact am_B.dret rfl rfl rfl ⟨rfl, rfl⟩
set_option maxRecDepth 100000 in
set_option maxHeartbeats 4000000 in
theorem xt_collect (h : am_H) (nb : Int32) (g : Nat → Int32) (h1 : h[1]? = some (c_TA nb (nI 0))) (h52 : h[52]? = some (ia 200 g)) : am_Ct am_G0 m_TA_collectFired 1 0 0 [.ref 1] h (fun v h' => v = none ∧ ∃ x, h' = h.set 52 x) := by
  refine am_Ct.of (E := E_TA_collectFired) e_TA_collectFired (by decide) (Nat.le_of_ble_eq_true rfl) ?_
  refine am_B.run (hp := false) (sp := []) 200 rfl ?_
  refine am_B.get rfl rfl rfl (by first | assumption | exact gs_s (by first | assumption | exact gs_s (by first | assumption | exact gs_s (by assumption) | (refine gs_n (by decide) ?_; assumption)) | (refine gs_n (by decide) ?_; first | assumption | exact gs_s (by assumption) | (refine gs_n (by decide) ?_; assumption))) | (refine gs_n (by decide) ?_; first | assumption | exact gs_s (by first | assumption | exact gs_s (by assumption) | (refine gs_n (by decide) ?_; assumption)) | (refine gs_n (by decide) ?_; first | assumption | exact gs_s (by assumption) | (refine gs_n (by decide) ?_; assumption)))) rfl rfl ?_
  refine am_B.run (hp := false) (sp := []) 200 rfl ?_
  refine am_B.callS (ci := 0) (n := 2) (as := [.ref 52, .int (nI 0)]) rfl rfl rfl (ct_AR_fill 0 _ 52 200 g (nI 0) h52 (by decide)) rfl rfl (by exact Nat.le_of_ble_eq_true rfl) rfl rfl rfl (fun v h' z => ?_)
  obtain ⟨rfl, rfl⟩ := z
  refine am_B.run (hp := false) (sp := []) 200 rfl ?_
  refine am_B.get rfl rfl rfl (by first | assumption | exact gs_s (by first | assumption | exact gs_s (by first | assumption | exact gs_s (by assumption) | (refine gs_n (by decide) ?_; assumption)) | (refine gs_n (by decide) ?_; first | assumption | exact gs_s (by assumption) | (refine gs_n (by decide) ?_; assumption))) | (refine gs_n (by decide) ?_; first | assumption | exact gs_s (by first | assumption | exact gs_s (by assumption) | (refine gs_n (by decide) ?_; assumption)) | (refine gs_n (by decide) ?_; first | assumption | exact gs_s (by assumption) | (refine gs_n (by decide) ?_; assumption)))) rfl rfl ?_
  refine am_B.icmp_ge rfl rfl (fun _ => ?_) (fun z => absurd (by decide) z)
  exact am_B.vret rfl rfl rfl ⟨rfl, _, rfl⟩
set_option maxRecDepth 100000 in
set_option maxHeartbeats 4000000 in
theorem xx_precision (h : am_H) (X : xF h) : am_Ct am_G0 m_TA_precision 3 0 0 [.ref 1] h (fun v h' => v = some (.double FP.dconst1) ∧ ∃ x, h' = (hE h).set 52 x) := by
  have h1 := X.2.1
  have e1 := X.e1
  have e52 : (hE h)[52]? = some (z_ 200) := xF.eo (by decide) X.2.2.2.2.2.2.2.2.2.2.2.2.2.2.2.2.2.2.1
  refine am_Ct.of (E := E_TA_precision) e_TA_precision (by decide) (Nat.le_of_ble_eq_true rfl) ?_
  refine am_B.run (hp := false) (sp := []) 200 rfl ?_
  refine am_B.callV (ci := 0) (n := 0) (as := []) rfl rfl rfl (xt_requireMarkings h X) rfl rfl (by exact Nat.le_of_ble_eq_true rfl) rfl h1 rfl rfl (fun v h' z => ?_)
  obtain ⟨rfl, rfl⟩ := z
  refine am_B.run (hp := false) (sp := []) 200 rfl ?_
  refine am_B.callV (ci := 0) (n := 0) (as := []) rfl rfl rfl (xt_collect (hE h) (nI 0) _ e1 e52) rfl rfl (by exact Nat.le_of_ble_eq_true rfl) rfl e1 rfl rfl (fun v h' z => ?_)
  obtain ⟨rfl, x, rfl⟩ := z
  refine am_B.run (hp := false) (sp := []) 200 rfl ?_
  refine am_B.get rfl rfl rfl (by first | assumption | exact gs_s (by first | assumption | exact gs_s (by first | assumption | exact gs_s (by assumption) | (refine gs_n (by decide) ?_; assumption)) | (refine gs_n (by decide) ?_; first | assumption | exact gs_s (by assumption) | (refine gs_n (by decide) ?_; assumption))) | (refine gs_n (by decide) ?_; first | assumption | exact gs_s (by first | assumption | exact gs_s (by assumption) | (refine gs_n (by decide) ?_; assumption)) | (refine gs_n (by decide) ?_; first | assumption | exact gs_s (by assumption) | (refine gs_n (by decide) ?_; assumption)))) rfl rfl ?_
  refine am_B.icmp_ge rfl rfl (fun _ => ?_) (fun z => absurd (by decide) z)
  refine am_B.run (hp := false) (sp := []) 200 rfl ?_
  refine am_B.if_ne rfl rfl (fun z => absurd rfl z) (fun _ => ?_)
  refine am_B.run (hp := false) (sp := []) 200 rfl ?_
  exact am_B.dret rfl rfl rfl ⟨rfl, x, rfl⟩
end
section
/-! THE FRESH REFERENCE (53 its object, 54 labels .. 68 ahead; 69, 70 the law's own) -/
abbrev c_M (th pl tr fi wa bf tc kn tm mk : Int32) : am_C := .inr (5, [.int th, .int pl, .int tr, .ref 54, .ref 55, .ref 56, .ref 57, .int fi, .int wa, .ref 58, .int bf, .ref 59, .int tc, .ref 60, .ref 61, .ref 62, .int kn, .int tm, .int mk, .ref 63, .ref 64, .ref 65, .int 0, .int 0, .int 0, .ref 66, .ref 67, .ref 68, .int 0])
abbrev c_M0 : am_C := c_M (nI 0) (nI 0) (nI 0) (nI 0) (nI 0) (nI 0) (nI 0) (nI 0) (nI 0) (nI 0)
abbrev c_ML (th : Int32) : am_C := c_M th (nI 0) (nI 0) (nI 0) (nI 0) (nI 0) (nI 0) (nI 1) (nI 0) (nI 1)
def one6 : Nat → Int32 := upd (upd (upd (upd (upd (upd (fun _ => 0) 0 (nI 1)) 1 (nI 1)) 2 (nI 1)) 3 (nI 1)) 4 (nI 1)) 5 (nI 1)
theorem one6_at {l : Nat} (hl : l < 6) : one6 l = nI 1 := by
  obtain rfl | rfl | rfl | rfl | rfl | rfl : l = 0 ∨ l = 1 ∨ l = 2 ∨ l = 3 ∨ l = 4 ∨ l = 5 := by omega
  all_goals rfl
def mF (h : am_H) : Prop := 71 ≤ h.length ∧ h[53]? = some c_M0 ∧ h[54]? = some (z_ 10) ∧ h[55]? = some (z_ 10) ∧ h[56]? = some (z_ 10) ∧ h[57]? = some (z_ 10) ∧ h[58]? = some (ia 6 one6) ∧ h[59]? = some (z_ 8) ∧ h[60]? = some (z_ 8) ∧ h[61]? = some (z_ 8) ∧ h[63]? = some (z_ 200)
def mP (k : Nat) (h h' : am_H) : Prop := h.length ≤ h'.length ∧ (∀ a, a = 0 ∨ a = 69 ∨ a = 70 → h'[a]? = h[a]?) ∧ ∃ vs, h'[53]? = some (.inr (5, vs)) ∧ vs[0]? = some (.int (nI k))
theorem mP.rf {h : am_H} (M : mF h) : mP 0 h h := ⟨Nat.le_refl _, fun _ _ => rfl, _, M.2.1, rfl⟩
theorem mP.set {k : Nat} {h h' : am_H} (p : mP k h h') {a : Nat} (ha : a ≠ 0 ∧ a ≠ 53 ∧ a ≠ 69 ∧ a ≠ 70) (x : am_C) : mP k h (h'.set a x) :=
  ⟨by rw [List.length_set]; exact p.1, fun b hb => by rw [List.getElem?_set_ne (by omega)]; exact p.2.1 b hb, by obtain ⟨vs, q1, q2⟩ := p.2.2; exact ⟨vs, by rw [List.getElem?_set_ne ha.2.1]; exact q1, q2⟩⟩
theorem mP.set53 {k k' : Nat} {h h' : am_H} (p : mP k h h') {vs : List Value} (hv : vs[0]? = some (.int (nI k'))) : mP k' h (h'.set 53 (.inr (5, vs))) :=
  ⟨by rw [List.length_set]; exact p.1, fun b hb => by rw [List.getElem?_set_ne (by omega)]; exact p.2.1 b hb, vs, by obtain ⟨us, q1, q2⟩ := p.2.2; exact gs_s q1, hv⟩
theorem mP.app {k : Nat} {h h' : am_H} (p : mP k h h') (hl : 71 ≤ h.length) (x : am_C) : mP k h (h' ++ [x]) :=
  ⟨by rw [List.length_append]; have := p.1; omega, fun b hb => by rw [List.getElem?_append_left (by have := p.1; omega)]; exact p.2.1 b hb, by obtain ⟨vs, q1, q2⟩ := p.2.2; exact ⟨vs, by rw [List.getElem?_append_left (by have := p.1; omega)]; exact q1, q2⟩⟩
def mL (X : am_C) (h : am_H) : am_H := (h.set 53 X).set 63 (ia 200 (upd (fun _ => 0) 0 (nI 0)))
theorem mL_s {X Y : am_C} {h : am_H} : (mL X h).set 53 Y = mL Y h := by
  unfold mL
  rw [List.set_comm _ _ (by decide : (63 : Nat) ≠ 53), gs_ss]
theorem mL_53 {X : am_C} {h : am_H} (M : mF h) : (mL X h)[53]? = some X := gs_n (by decide) (gs_s M.2.1)
theorem mL_63 {X : am_C} {h : am_H} (M : mF h) : (mL X h)[63]? = some (ia 200 (upd (fun _ => 0) 0 (nI 0))) := gs_s (gs_n (by decide) M.2.2.2.2.2.2.2.2.2.2)
theorem mL_P {k : Nat} {h : am_H} (M : mF h) {vs : List Value} (hv : vs[0]? = some (.int (nI k))) : mP k h (mL (.inr (5, vs)) h) := ((mP.rf M).set53 hv).set (by decide) _
set_option maxRecDepth 100000 in
set_option maxHeartbeats 4000000 in
theorem mt_no (f : Nat) (h : am_H) (k : Nat) (vs : List Value) (h53 : h[53]? = some (.inr (5, vs))) (hl : vs.length = 29) : am_Ct am_G0 m_MO_no f 0 0 [.ref 53, .int (nI k)] h (fun v h' => v = some (.int (nI 0)) ∧ h' = h.set 53 (.inr (5, vs.set 0 (.int (nI k))))) := by
  refine am_Ct.of (E := E_MO_no) e_MO_no (by decide) (Nat.le_of_ble_eq_true rfl) ?_
  refine am_B.run (hp := false) (sp := []) 200 rfl ?_
  refine am_B.put rfl rfl rfl h53 rfl (by rw [hl]; exact Nat.le_of_ble_eq_true rfl) rfl (fun q => by cases q) ?_
  refine am_B.run (hp := false) (sp := []) 200 rfl ?_
  exact am_B.iret rfl rfl rfl ⟨rfl, rfl⟩
set_option maxRecDepth 100000 in
set_option maxHeartbeats 4000000 in
theorem mt_isIn0 (f : Nat) (h : am_H) (x c : Int32) (n : Nat) (hn : n < 2 ^ 31) (hx : xbad x n) (hc : c = nI n - nI 1) : am_Ct am_G0 m_MO_isIn f 0 0 [.int x, .int (nI 0), .int c] h (fun v h' => v = some (.int (nI 0)) ∧ h' = h) := by
  refine am_Ct.of (E := E_MO_isIn) e_MO_isIn (by decide) (Nat.le_of_ble_eq_true rfl) ?_
  refine am_B.run (hp := false) (sp := []) 200 rfl ?_
  rcases hx with hx | ⟨j, q1, q2, rfl⟩
  · refine am_B.icmp_lt rfl rfl (fun _ => ?_) (fun z => absurd hx z)
    refine am_B.run (hp := false) (sp := []) 200 rfl ?_
    exact am_B.zret rfl rfl rfl rfl ⟨rfl, rfl⟩
  · refine am_B.icmp_lt rfl rfl (fun z => absurd z (nI_nlt (Nat.zero_le _) q2)) (fun _ => ?_)
    refine am_B.run (hp := false) (sp := []) 200 rfl ?_
    refine am_B.icmp_gt rfl rfl (fun _ => ?_) (fun z => absurd ?_ z)
    · refine am_B.run (hp := false) (sp := []) 200 rfl ?_
      exact am_B.zret rfl rfl rfl rfl ⟨rfl, rfl⟩
    · subst hc
      cases n with
      | zero =>
        rw [show nI 0 - nI 1 = -1 by decide, Int32.lt_iff_toInt_lt, nI_toInt q2]
        show (-1 : Int) < j
        omega
      | succ n =>
        rw [nI_prd]
        exact nI_lt (by omega) q2
set_option maxRecDepth 100000 in
set_option maxHeartbeats 4000000 in
theorem mt_isIn1 (f : Nat) (h : am_H) (j n : Nat) (c : Int32) (hn : n < 2 ^ 31) (hj : j < n) (hc : c = nI n - nI 1) : am_Ct am_G0 m_MO_isIn f 0 0 [.int (nI j), .int (nI 0), .int c] h (fun v h' => v = some (.int (nI 1)) ∧ h' = h) := by
  refine am_Ct.of (E := E_MO_isIn) e_MO_isIn (by decide) (Nat.le_of_ble_eq_true rfl) ?_
  refine am_B.run (hp := false) (sp := []) 200 rfl ?_
  refine am_B.icmp_lt rfl rfl (fun z => absurd z (nI_nlt (Nat.zero_le _) (by omega))) (fun _ => ?_)
  refine am_B.run (hp := false) (sp := []) 200 rfl ?_
  refine am_B.icmp_gt rfl rfl (fun z => absurd z ?_) (fun _ => ?_)
  · subst hc
    obtain ⟨m, rfl⟩ : ∃ m, n = m + 1 := ⟨n - 1, by omega⟩
    rw [nI_prd]
    exact nI_nlt (by omega) (by omega)
  · refine am_B.run (hp := false) (sp := []) 200 rfl ?_
    exact am_B.zret rfl rfl rfl rfl ⟨rfl, rfl⟩
set_option maxRecDepth 100000 in
set_option maxHeartbeats 4000000 in
theorem mt_isPlace (h : am_H) (x : Int32) (vs : List Value) (h53 : h[53]? = some (.inr (5, vs))) (hv : vs[1]? = some (.int (nI 0))) : am_Ct am_G0 m_MO_isPlace 1 0 0 [.ref 53, .int x] h (fun v h' => v = some (.int (nI 0)) ∧ h' = h) := by
  refine am_Ct.of (E := E_MO_isPlace) e_MO_isPlace (by decide) (Nat.le_of_ble_eq_true rfl) ?_
  refine am_B.run (hp := false) (sp := []) 200 rfl ?_
  refine am_B.get rfl rfl rfl h53 rfl hv ?_
  refine am_B.run (hp := false) (sp := []) 200 rfl ?_
  refine am_B.callS (n := 3) (as := [.int x, .int (nI 0), .int (nI 0 - nI 1)]) rfl rfl rfl (mt_isIn0 0 h x _ 0 (by decide) (xbad_0 x) rfl) rfl rfl (by exact Nat.le_of_ble_eq_true rfl) rfl rfl rfl (fun v h' z => ?_)
  obtain ⟨rfl, rfl⟩ := z
  exact am_B.zret rfl rfl rfl rfl ⟨rfl, rfl⟩
set_option maxRecDepth 100000 in
set_option maxHeartbeats 4000000 in
theorem mt_isTransition (h : am_H) (x : Int32) (vs : List Value) (h53 : h[53]? = some (.inr (5, vs))) (hv : vs[2]? = some (.int (nI 0))) : am_Ct am_G0 m_MO_isTransition 1 0 0 [.ref 53, .int x] h (fun v h' => v = some (.int (nI 0)) ∧ h' = h) := by
  refine am_Ct.of (E := E_MO_isTransition) e_MO_isTransition (by decide) (Nat.le_of_ble_eq_true rfl) ?_
  refine am_B.run (hp := false) (sp := []) 200 rfl ?_
  refine am_B.get rfl rfl rfl h53 rfl hv ?_
  refine am_B.run (hp := false) (sp := []) 200 rfl ?_
  refine am_B.callS (n := 3) (as := [.int x, .int (nI 0), .int (nI 0 - nI 1)]) rfl rfl rfl (mt_isIn0 0 h x _ 0 (by decide) (xbad_0 x) rfl) rfl rfl (by exact Nat.le_of_ble_eq_true rfl) rfl rfl rfl (fun v h' z => ?_)
  obtain ⟨rfl, rfl⟩ := z
  exact am_B.zret rfl rfl rfl rfl ⟨rfl, rfl⟩
set_option maxRecDepth 100000 in
set_option maxHeartbeats 4000000 in
theorem mt_isTrace (h : am_H) (x : Int32) (vs : List Value) (h53 : h[53]? = some (.inr (5, vs))) (hv : vs[12]? = some (.int (nI 0))) : am_Ct am_G0 m_MO_isTrace 1 0 0 [.ref 53, .int x] h (fun v h' => v = some (.int (nI 0)) ∧ h' = h) := by
  refine am_Ct.of (E := E_MO_isTrace) e_MO_isTrace (by decide) (Nat.le_of_ble_eq_true rfl) ?_
  refine am_B.run (hp := false) (sp := []) 200 rfl ?_
  refine am_B.get rfl rfl rfl h53 rfl hv ?_
  refine am_B.run (hp := false) (sp := []) 200 rfl ?_
  refine am_B.callS (n := 3) (as := [.int x, .int (nI 0), .int (nI 0 - nI 1)]) rfl rfl rfl (mt_isIn0 0 h x _ 0 (by decide) (xbad_0 x) rfl) rfl rfl (by exact Nat.le_of_ble_eq_true rfl) rfl rfl rfl (fun v h' z => ?_)
  obtain ⟨rfl, rfl⟩ := z
  exact am_B.zret rfl rfl rfl rfl ⟨rfl, rfl⟩
set_option maxRecDepth 100000 in
set_option maxHeartbeats 4000000 in
theorem mt_isLabel0 (h : am_H) (x : Int32) (hx : xbad x 6) : am_Ct am_G0 m_MO_isLabel 1 0 0 [.int x] h (fun v h' => v = some (.int (nI 0)) ∧ h' = h) := by
  refine am_Ct.of (E := E_MO_isLabel) e_MO_isLabel (by decide) (Nat.le_of_ble_eq_true rfl) ?_
  refine am_B.run (hp := false) (sp := []) 200 rfl ?_
  refine am_B.callS (n := 3) (as := [.int x, .int (nI 0), .int (nI 5)]) rfl rfl rfl (mt_isIn0 0 h x _ 6 (by decide) hx (by decide)) rfl rfl (by exact Nat.le_of_ble_eq_true rfl) rfl rfl rfl (fun v h' z => ?_)
  obtain ⟨rfl, rfl⟩ := z
  exact am_B.zret rfl rfl rfl rfl ⟨rfl, rfl⟩
set_option maxRecDepth 100000 in
set_option maxHeartbeats 4000000 in
theorem mt_isLabel1 (h : am_H) (l : Nat) (hl : l < 6) : am_Ct am_G0 m_MO_isLabel 1 0 0 [.int (nI l)] h (fun v h' => v = some (.int (nI 1)) ∧ h' = h) := by
  refine am_Ct.of (E := E_MO_isLabel) e_MO_isLabel (by decide) (Nat.le_of_ble_eq_true rfl) ?_
  refine am_B.run (hp := false) (sp := []) 200 rfl ?_
  refine am_B.callS (n := 3) (as := [.int (nI l), .int (nI 0), .int (nI 5)]) rfl rfl rfl (mt_isIn1 0 h l 6 _ (by decide) hl (by decide)) rfl rfl (by exact Nat.le_of_ble_eq_true rfl) rfl rfl rfl (fun v h' z => ?_)
  obtain ⟨rfl, rfl⟩ := z
  exact am_B.zret rfl rfl rfl rfl ⟨rfl, rfl⟩
set_option maxRecDepth 100000 in
set_option maxHeartbeats 4000000 in
theorem mt_look (f : Nat) (h : am_H) (M : mF h) : am_Ct am_G0 m_MO_look f 0 0 [.ref 53] h (fun v h' => v = none ∧ h' = mL (c_ML (nI 0)) h) := by
  have m53 := M.2.1
  have m63 := M.2.2.2.2.2.2.2.2.2.2
  refine am_Ct.of (E := E_MO_look) e_MO_look (by decide) (Nat.le_of_ble_eq_true rfl) ?_
  refine am_B.run (hp := false) (sp := []) 200 rfl ?_
  refine am_B.get rfl rfl rfl (by first | assumption | exact gs_s (by first | assumption | exact gs_s (by first | assumption | exact gs_s (by assumption) | (refine gs_n (by decide) ?_; assumption)) | (refine gs_n (by decide) ?_; first | assumption | exact gs_s (by assumption) | (refine gs_n (by decide) ?_; assumption))) | (refine gs_n (by decide) ?_; first | assumption | exact gs_s (by first | assumption | exact gs_s (by assumption) | (refine gs_n (by decide) ?_; assumption)) | (refine gs_n (by decide) ?_; first | assumption | exact gs_s (by assumption) | (refine gs_n (by decide) ?_; assumption)))) rfl rfl ?_
  refine am_B.if_eq rfl rfl (fun _ => ?_) (fun z => absurd rfl z)
  refine am_B.run (hp := false) (sp := []) 200 rfl ?_
  refine am_B.put rfl rfl rfl (by first | assumption | exact gs_s (by first | assumption | exact gs_s (by first | assumption | exact gs_s (by assumption) | (refine gs_n (by decide) ?_; assumption)) | (refine gs_n (by decide) ?_; first | assumption | exact gs_s (by assumption) | (refine gs_n (by decide) ?_; assumption))) | (refine gs_n (by decide) ?_; first | assumption | exact gs_s (by first | assumption | exact gs_s (by assumption) | (refine gs_n (by decide) ?_; assumption)) | (refine gs_n (by decide) ?_; first | assumption | exact gs_s (by assumption) | (refine gs_n (by decide) ?_; assumption)))) rfl (Nat.le_of_ble_eq_true rfl) rfl (fun q => by cases q) ?_
  refine am_B.run (hp := false) (sp := []) 200 rfl ?_
  refine am_B.put rfl rfl rfl (gs_s m53) rfl (Nat.le_of_ble_eq_true rfl) rfl (fun q => by cases q) ?_
  rw [gs_ss]
  refine am_B.run (hp := false) (sp := []) 200 rfl ?_
  refine am_B.get rfl rfl rfl (gs_s m53) rfl rfl ?_
  refine am_B.run (hp := false) (sp := []) 200 rfl ?_
  refine am_B.get rfl rfl rfl (gs_s m53) rfl rfl ?_
  refine am_B.ast rfl (gs_n (by decide) m63) (vp_n (show 0 < 200 by decide) rfl) rfl ?_
  rw [nI_clamp (show 0 < 2 ^ 31 by decide)]
  refine am_B.run (hp := false) (sp := []) 200 rfl ?_
  refine am_B.put rfl rfl rfl (gs_n (by decide) (gs_s m53)) rfl (Nat.le_of_ble_eq_true rfl) rfl (fun q => by cases q) ?_
  rw [List.set_comm _ _ (by decide : (63 : Nat) ≠ 53), gs_ss]
  show am_B _ _ _ _ _ _ (mL (c_ML (nI 0)) h) _ _
  refine am_B.run (hp := false) (sp := []) 200 rfl ?_
  refine am_B.get rfl rfl rfl (mL_53 M) rfl rfl ?_
  refine am_B.icmp_ge rfl rfl (fun z => absurd z (by decide)) (fun _ => ?_)
  refine am_B.run (hp := false) (sp := []) 200 rfl ?_
  refine am_B.get rfl rfl rfl (mL_53 M) rfl rfl ?_
  refine am_B.icmp_ge rfl rfl (fun _ => ?_) (fun z => absurd (by decide) z)
  refine am_B.run (hp := false) (sp := []) 200 rfl ?_
  refine am_B.get rfl rfl rfl (mL_53 M) rfl rfl ?_
  refine am_B.icmp_ge rfl rfl (fun _ => ?_) (fun z => absurd (by decide) z)
  exact am_B.vret rfl rfl rfl ⟨rfl, rfl⟩
set_option maxRecDepth 100000 in
set_option maxHeartbeats 4000000 in
theorem mt_numberOf (f : Nat) (h : am_H) (M : mF h) (th : Int32) : am_Ct am_G0 m_MO_numberOf f 0 0 [.ref 53, .int (nI 0)] (mL (c_ML th) h) (fun v h' => v = some (.int (nI 0)) ∧ h' = mL (c_ML th) h) := by
  refine am_Ct.of (E := E_MO_numberOf) e_MO_numberOf (by decide) (Nat.le_of_ble_eq_true rfl) ?_
  refine am_B.run (hp := false) (sp := []) 200 rfl ?_
  refine am_B.get rfl rfl rfl (mL_53 M) rfl rfl ?_
  refine am_B.icmp_ge rfl rfl (fun z => absurd z (by decide)) (fun _ => ?_)
  refine am_B.run (hp := false) (sp := []) 200 rfl ?_
  refine am_B.get rfl rfl rfl (mL_53 M) rfl rfl ?_
  refine am_B.run (hp := false) (sp := []) 200 rfl ?_
  refine am_B.ald rfl (mL_63 M) (vp_n (show 0 < 200 by decide) rfl) rfl ?_
  rw [nI_clamp (show 0 < 2 ^ 31 by decide), upd_s]
  refine am_B.run (hp := false) (sp := []) 200 rfl ?_
  refine am_B.icmp_ne rfl rfl (fun z => absurd rfl z) (fun _ => ?_)
  refine am_B.run (hp := false) (sp := []) 200 rfl ?_
  exact am_B.iret rfl rfl rfl ⟨rfl, rfl⟩
set_option maxRecDepth 100000 in
set_option maxHeartbeats 4000000 in
theorem mt_enabledIn (f : Nat) (h : am_H) (M : mF h) (th : Int32) : am_Ct am_G0 m_MO_enabledIn f 0 0 [.ref 53, .int (nI 0)] (mL (c_ML th) h) (fun v h' => v = some (.int (nI 0)) ∧ h' = mL (c_ML th) h) := by
  refine am_Ct.of (E := E_MO_enabledIn) e_MO_enabledIn (by decide) (Nat.le_of_ble_eq_true rfl) ?_
  refine am_B.run (hp := false) (sp := []) 200 rfl ?_
  refine am_B.get rfl rfl rfl (mL_53 M) rfl rfl ?_
  refine am_B.icmp_ge rfl rfl (fun _ => ?_) (fun z => absurd (by decide) z)
  refine am_B.run (hp := false) (sp := []) 200 rfl ?_
  exact am_B.iret rfl rfl rfl ⟨rfl, rfl⟩
set_option maxRecDepth 100000 in
set_option maxHeartbeats 4000000 in
theorem mt_asks0 (h : am_H) (M : mF h) (x : Int32) (hx : xbad x 1) : am_Ct am_G0 m_MO_asks 1 0 0 [.ref 53, .int x] h (fun v h' => v = some (.int (nI 0)) ∧ h' = mL (c_ML (nI 2)) h) := by
  have m53 := M.2.1
  refine am_Ct.of (E := E_MO_asks) e_MO_asks (by decide) (Nat.le_of_ble_eq_true rfl) ?_
  refine am_B.run (hp := false) (sp := []) 200 rfl ?_
  refine am_B.callV (ci := 5) (n := 0) (as := []) rfl rfl rfl (mt_look 0 h M) rfl rfl (by exact Nat.le_of_ble_eq_true rfl) rfl m53 rfl rfl (fun v h' z => ?_)
  obtain ⟨rfl, rfl⟩ := z
  refine am_B.run (hp := false) (sp := []) 200 rfl ?_
  refine am_B.get rfl rfl rfl (mL_53 M) rfl rfl ?_
  refine am_B.if_eq rfl rfl (fun _ => ?_) (fun z => absurd rfl z)
  refine am_B.run (hp := false) (sp := []) 200 rfl ?_
  refine am_B.get rfl rfl rfl (mL_53 M) rfl rfl ?_
  refine am_B.run (hp := false) (sp := []) 200 rfl ?_
  refine am_B.callS (n := 3) (as := [.int x, .int (nI 0), .int (nI 1 - nI 1)]) rfl rfl rfl (mt_isIn0 0 _ x _ 1 (by decide) hx rfl) rfl rfl (by exact Nat.le_of_ble_eq_true rfl) rfl rfl rfl (fun v h' z => ?_)
  obtain ⟨rfl, rfl⟩ := z
  refine am_B.if_ne rfl rfl (fun z => absurd rfl z) (fun _ => ?_)
  refine am_B.run (hp := false) (sp := []) 200 rfl ?_
  refine am_B.put rfl rfl rfl (mL_53 M) rfl (Nat.le_of_ble_eq_true rfl) rfl (fun q => by cases q) ?_
  rw [mL_s]
  refine am_B.run (hp := false) (sp := []) 200 rfl ?_
  refine am_B.get rfl rfl rfl (mL_53 M) rfl rfl ?_
  refine am_B.if_ne rfl rfl (fun _ => ?_) (fun z => absurd z (by decide))
  refine am_B.run (hp := false) (sp := []) 200 rfl ?_
  exact am_B.zret rfl rfl rfl rfl ⟨rfl, rfl⟩
set_option maxRecDepth 100000 in
set_option maxHeartbeats 4000000 in
theorem mt_asks1 (h : am_H) (M : mF h) : am_Ct am_G0 m_MO_asks 1 0 0 [.ref 53, .int (nI 0)] h (fun v h' => v = some (.int (nI 1)) ∧ h' = mL (c_ML (nI 0)) h) := by
  have m53 := M.2.1
  refine am_Ct.of (E := E_MO_asks) e_MO_asks (by decide) (Nat.le_of_ble_eq_true rfl) ?_
  refine am_B.run (hp := false) (sp := []) 200 rfl ?_
  refine am_B.callV (ci := 5) (n := 0) (as := []) rfl rfl rfl (mt_look 0 h M) rfl rfl (by exact Nat.le_of_ble_eq_true rfl) rfl m53 rfl rfl (fun v h' z => ?_)
  obtain ⟨rfl, rfl⟩ := z
  refine am_B.run (hp := false) (sp := []) 200 rfl ?_
  refine am_B.get rfl rfl rfl (mL_53 M) rfl rfl ?_
  refine am_B.if_eq rfl rfl (fun _ => ?_) (fun z => absurd rfl z)
  refine am_B.run (hp := false) (sp := []) 200 rfl ?_
  refine am_B.get rfl rfl rfl (mL_53 M) rfl rfl ?_
  refine am_B.run (hp := false) (sp := []) 200 rfl ?_
  refine am_B.callS (n := 3) (as := [.int (nI 0), .int (nI 0), .int (nI 1 - nI 1)]) rfl rfl rfl (mt_isIn1 0 _ 0 1 _ (by decide) (by decide) rfl) rfl rfl (by exact Nat.le_of_ble_eq_true rfl) rfl rfl rfl (fun v h' z => ?_)
  obtain ⟨rfl, rfl⟩ := z
  refine am_B.if_ne rfl rfl (fun _ => ?_) (fun z => absurd z (by decide))
  refine am_B.run (hp := false) (sp := []) 200 rfl ?_
  refine am_B.put rfl rfl rfl (mL_53 M) rfl (Nat.le_of_ble_eq_true rfl) rfl (fun q => by cases q) ?_
  rw [mL_s]
  refine am_B.run (hp := false) (sp := []) 200 rfl ?_
  refine am_B.get rfl rfl rfl (mL_53 M) rfl rfl ?_
  refine am_B.if_ne rfl rfl (fun z => absurd rfl z) (fun _ => ?_)
  refine am_B.run (hp := false) (sp := []) 200 rfl ?_
  exact am_B.zret rfl rfl rfl rfl ⟨rfl, rfl⟩
set_option maxRecDepth 100000 in
set_option maxHeartbeats 4000000 in
theorem mt_asksTrace (h : am_H) (M : mF h) (x : Int32) : am_Ct am_G0 m_MO_asksTrace 2 0 0 [.ref 53, .int x] h (fun v h' => v = some (.int (nI 0)) ∧ h' = mL (c_ML (nI 1)) h) := by
  have m53 := M.2.1
  refine am_Ct.of (E := E_MO_asksTrace) e_MO_asksTrace (by decide) (Nat.le_of_ble_eq_true rfl) ?_
  refine am_B.run (hp := false) (sp := []) 200 rfl ?_
  refine am_B.callV (ci := 5) (n := 0) (as := []) rfl rfl rfl (mt_look 0 h M) rfl rfl (by exact Nat.le_of_ble_eq_true rfl) rfl m53 rfl rfl (fun v h' z => ?_)
  obtain ⟨rfl, rfl⟩ := z
  refine am_B.run (hp := false) (sp := []) 200 rfl ?_
  refine am_B.callV (ci := 5) (n := 1) (as := [.int x]) rfl rfl rfl (mt_isTrace _ x _ (mL_53 M) rfl) rfl rfl (by exact Nat.le_of_ble_eq_true rfl) rfl (mL_53 M) rfl rfl (fun v h' z => ?_)
  obtain ⟨rfl, rfl⟩ := z
  refine am_B.if_ne rfl rfl (fun z => absurd rfl z) (fun _ => ?_)
  refine am_B.run (hp := false) (sp := []) 200 rfl ?_
  refine am_B.put rfl rfl rfl (mL_53 M) rfl (Nat.le_of_ble_eq_true rfl) rfl (fun q => by cases q) ?_
  rw [mL_s]
  refine am_B.run (hp := false) (sp := []) 200 rfl ?_
  refine am_B.get rfl rfl rfl (mL_53 M) rfl rfl ?_
  refine am_B.if_ne rfl rfl (fun _ => ?_) (fun z => absurd z (by decide))
  refine am_B.run (hp := false) (sp := []) 200 rfl ?_
  exact am_B.zret rfl rfl rfl rfl ⟨rfl, rfl⟩
end
