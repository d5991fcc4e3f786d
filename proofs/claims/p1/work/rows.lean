section
/-- which kinds of rows (01, 03) this claim's tables speak of -/
def am_on : Nat → Bool := fun _ => true
/-- the calls of nest mates: class, pool index, method, host -/
def am_nst : List (String × Nat × MethodName × String) := [("TraceAligner", 9, ⟨"TraceAligner$Net", "<init>", "()V"⟩, "TraceAligner"), ("TraceAligner", 53, ⟨"TraceAligner$Trace", "<init>", "()V"⟩, "TraceAligner"), ("TraceAligner$Net", 37, ⟨"TraceAligner", "isIn", "(II)Z"⟩, "TraceAligner"), ("TraceAligner$Net", 41, ⟨"TraceAligner", "tokensIn", "(II)I"⟩, "TraceAligner"), ("TraceAligner$PathFinder", 127, ⟨"TraceAligner", "packMove", "(IIII)I"⟩, "TraceAligner"), ("TraceAligner$PathFinder", 118, ⟨"TraceAligner", "transitionOf", "(I)I"⟩, "TraceAligner"), ("TraceAligner$PathFinder", 124, ⟨"TraceAligner", "labelOf", "(I)I"⟩, "TraceAligner"), ("TraceAligner$Trace", 50, ⟨"TraceAligner", "labelOf", "(I)I"⟩, "TraceAligner"), ("TraceAligner$Trace", 54, ⟨"TraceAligner", "transitionOf", "(I)I"⟩, "TraceAligner"), ("TraceAligner$Trace", 57, ⟨"TraceAligner", "kindOf", "(I)I"⟩, "TraceAligner"), ("TraceAligner$Trace", 60, ⟨"TraceAligner", "markingOf", "(I)I"⟩, "TraceAligner")]
end
section
-- ===== PART A: goes FIRST, ahead of the names: the tables' words, and 'selects' of the private methods out of them =====
/-- a private method of a class that the tables say can be made, by its rows of tables_1 -/
def lw_okq (q : MethodName × Nat) : Prop := (q.1.cls ≠ "java/lang/invoke/MethodHandle" ∧ q.1.cls ≠ "java/lang/invoke/VarHandle") ∧ Cond.instantiable q.1.cls q.2 ∈ tables_1 ∧ Cond.privateMethod q.1 ∈ tables_1 ∧ Cond.instanceMethod q.1 ∈ tables_1
theorem lw_p0 : lw_okq (⟨"TraceAligner", "digestOfNet", "(J)J"⟩, 9) := ⟨⟨by decide +kernel, by decide +kernel⟩, List.mem_of_getElem? (i := 18) (by decide +kernel), List.mem_of_getElem? (i := 248) (by decide +kernel), List.mem_of_getElem? (i := 249) (by decide +kernel)⟩
theorem lw_p1 : lw_okq (⟨"TraceAligner", "digestOfTraces", "(J)J"⟩, 9) := ⟨⟨by decide +kernel, by decide +kernel⟩, List.mem_of_getElem? (i := 18) (by decide +kernel), List.mem_of_getElem? (i := 253) (by decide +kernel), List.mem_of_getElem? (i := 254) (by decide +kernel)⟩
theorem lw_p2 : lw_okq (⟨"java/lang/Throwable", "fillInStackTrace", "(I)Ljava/lang/Throwable;"⟩, 6) := ⟨⟨by decide +kernel, by decide +kernel⟩, List.mem_of_getElem? (i := 372) (by decide +kernel), List.mem_of_getElem? (i := 370) (by decide +kernel), List.mem_of_getElem? (i := 371) (by decide +kernel)⟩
theorem lw_p3 : lw_okq (⟨"TraceAligner", "forgetMarkings", "()V"⟩, 9) := ⟨⟨by decide +kernel, by decide +kernel⟩, List.mem_of_getElem? (i := 18) (by decide +kernel), List.mem_of_getElem? (i := 402) (by decide +kernel), List.mem_of_getElem? (i := 403) (by decide +kernel)⟩
theorem lw_p4 : lw_okq (⟨"TraceAligner", "forgetAlignments", "()V"⟩, 9) := ⟨⟨by decide +kernel, by decide +kernel⟩, List.mem_of_getElem? (i := 18) (by decide +kernel), List.mem_of_getElem? (i := 406) (by decide +kernel), List.mem_of_getElem? (i := 407) (by decide +kernel)⟩
theorem lw_p5 : lw_okq (⟨"TraceAligner", "requireTransition", "(I)V"⟩, 9) := ⟨⟨by decide +kernel, by decide +kernel⟩, List.mem_of_getElem? (i := 18) (by decide +kernel), List.mem_of_getElem? (i := 454) (by decide +kernel), List.mem_of_getElem? (i := 455) (by decide +kernel)⟩
theorem lw_p6 : lw_okq (⟨"TraceAligner", "requirePlace", "(I)V"⟩, 9) := ⟨⟨by decide +kernel, by decide +kernel⟩, List.mem_of_getElem? (i := 18) (by decide +kernel), List.mem_of_getElem? (i := 474) (by decide +kernel), List.mem_of_getElem? (i := 475) (by decide +kernel)⟩
theorem lw_p7 : lw_okq (⟨"TraceAligner", "requireMarkings", "()V"⟩, 9) := ⟨⟨by decide +kernel, by decide +kernel⟩, List.mem_of_getElem? (i := 18) (by decide +kernel), List.mem_of_getElem? (i := 510) (by decide +kernel), List.mem_of_getElem? (i := 511) (by decide +kernel)⟩
theorem lw_p8 : lw_okq (⟨"TraceAligner", "requireMarking", "(I)V"⟩, 9) := ⟨⟨by decide +kernel, by decide +kernel⟩, List.mem_of_getElem? (i := 18) (by decide +kernel), List.mem_of_getElem? (i := 515) (by decide +kernel), List.mem_of_getElem? (i := 516) (by decide +kernel)⟩
theorem lw_p9 : lw_okq (⟨"TraceAligner", "requireTrace", "(I)V"⟩, 9) := ⟨⟨by decide +kernel, by decide +kernel⟩, List.mem_of_getElem? (i := 18) (by decide +kernel), List.mem_of_getElem? (i := 608) (by decide +kernel), List.mem_of_getElem? (i := 609) (by decide +kernel)⟩
theorem lw_p10 : lw_okq (⟨"TraceAligner", "alignedTrace", "(I)LTraceAligner$Trace;"⟩, 9) := ⟨⟨by decide +kernel, by decide +kernel⟩, List.mem_of_getElem? (i := 18) (by decide +kernel), List.mem_of_getElem? (i := 639) (by decide +kernel), List.mem_of_getElem? (i := 640) (by decide +kernel)⟩
theorem lw_p11 : lw_okq (⟨"TraceAligner", "collectFired", "()V"⟩, 9) := ⟨⟨by decide +kernel, by decide +kernel⟩, List.mem_of_getElem? (i := 18) (by decide +kernel), List.mem_of_getElem? (i := 718) (by decide +kernel), List.mem_of_getElem? (i := 719) (by decide +kernel)⟩
theorem lw_p12 : lw_okq (⟨"TraceAligner", "visitedSize", "(LTraceAligner$Trace;[I)I"⟩, 9) := ⟨⟨by decide +kernel, by decide +kernel⟩, List.mem_of_getElem? (i := 18) (by decide +kernel), List.mem_of_getElem? (i := 727) (by decide +kernel), List.mem_of_getElem? (i := 728) (by decide +kernel)⟩
theorem lw_p13 : lw_okq (⟨"TraceAlignerModel", "no", "(I)I"⟩, 29) := ⟨⟨by decide +kernel, by decide +kernel⟩, List.mem_of_getElem? (i := 737) (by decide +kernel), List.mem_of_getElem? (i := 839) (by decide +kernel), List.mem_of_getElem? (i := 840) (by decide +kernel)⟩
theorem lw_p14 : lw_okq (⟨"TraceAlignerModel", "isTransition", "(I)Z"⟩, 29) := ⟨⟨by decide +kernel, by decide +kernel⟩, List.mem_of_getElem? (i := 737) (by decide +kernel), List.mem_of_getElem? (i := 857) (by decide +kernel), List.mem_of_getElem? (i := 858) (by decide +kernel)⟩
theorem lw_p15 : lw_okq (⟨"TraceAlignerModel", "isPlace", "(I)Z"⟩, 29) := ⟨⟨by decide +kernel, by decide +kernel⟩, List.mem_of_getElem? (i := 737) (by decide +kernel), List.mem_of_getElem? (i := 861) (by decide +kernel), List.mem_of_getElem? (i := 862) (by decide +kernel)⟩
def lw_privs_1 : List (MethodName × Nat) := [(⟨"TraceAligner", "digestOfNet", "(J)J"⟩, 9), (⟨"TraceAligner", "digestOfTraces", "(J)J"⟩, 9), (⟨"java/lang/Throwable", "fillInStackTrace", "(I)Ljava/lang/Throwable;"⟩, 6), (⟨"TraceAligner", "forgetMarkings", "()V"⟩, 9), (⟨"TraceAligner", "forgetAlignments", "()V"⟩, 9), (⟨"TraceAligner", "requireTransition", "(I)V"⟩, 9), (⟨"TraceAligner", "requirePlace", "(I)V"⟩, 9), (⟨"TraceAligner", "requireMarkings", "()V"⟩, 9), (⟨"TraceAligner", "requireMarking", "(I)V"⟩, 9), (⟨"TraceAligner", "requireTrace", "(I)V"⟩, 9), (⟨"TraceAligner", "alignedTrace", "(I)LTraceAligner$Trace;"⟩, 9), (⟨"TraceAligner", "collectFired", "()V"⟩, 9), (⟨"TraceAligner", "visitedSize", "(LTraceAligner$Trace;[I)I"⟩, 9), (⟨"TraceAlignerModel", "no", "(I)I"⟩, 29), (⟨"TraceAlignerModel", "isTransition", "(I)Z"⟩, 29), (⟨"TraceAlignerModel", "isPlace", "(I)Z"⟩, 29)]
theorem lw_r1 : ∀ q ∈ lw_privs_1, lw_okq q := List.forall_mem_cons.mpr ⟨lw_p0, List.forall_mem_cons.mpr ⟨lw_p1, List.forall_mem_cons.mpr ⟨lw_p2, List.forall_mem_cons.mpr ⟨lw_p3, List.forall_mem_cons.mpr ⟨lw_p4, List.forall_mem_cons.mpr ⟨lw_p5, List.forall_mem_cons.mpr ⟨lw_p6, List.forall_mem_cons.mpr ⟨lw_p7, List.forall_mem_cons.mpr ⟨lw_p8, List.forall_mem_cons.mpr ⟨lw_p9, List.forall_mem_cons.mpr ⟨lw_p10, List.forall_mem_cons.mpr ⟨lw_p11, List.forall_mem_cons.mpr ⟨lw_p12, List.forall_mem_cons.mpr ⟨lw_p13, List.forall_mem_cons.mpr ⟨lw_p14, List.forall_mem_cons.mpr ⟨lw_p15, fun _ h => absurd h List.not_mem_nil⟩⟩⟩⟩⟩⟩⟩⟩⟩⟩⟩⟩⟩⟩⟩⟩
theorem lw_p16 : lw_okq (⟨"TraceAlignerModel", "look", "()V"⟩, 29) := ⟨⟨by decide +kernel, by decide +kernel⟩, List.mem_of_getElem? (i := 737) (by decide +kernel), List.mem_of_getElem? (i := 887) (by decide +kernel), List.mem_of_getElem? (i := 888) (by decide +kernel)⟩
theorem lw_p17 : lw_okq (⟨"TraceAlignerModel", "fire", "(II)I"⟩, 29) := ⟨⟨by decide +kernel, by decide +kernel⟩, List.mem_of_getElem? (i := 737) (by decide +kernel), List.mem_of_getElem? (i := 891) (by decide +kernel), List.mem_of_getElem? (i := 892) (by decide +kernel)⟩
theorem lw_p18 : lw_okq (⟨"TraceAlignerModel", "numberOf", "(I)I"⟩, 29) := ⟨⟨by decide +kernel, by decide +kernel⟩, List.mem_of_getElem? (i := 737) (by decide +kernel), List.mem_of_getElem? (i := 895) (by decide +kernel), List.mem_of_getElem? (i := 896) (by decide +kernel)⟩
theorem lw_p19 : lw_okq (⟨"TraceAlignerModel", "asks", "(I)Z"⟩, 29) := ⟨⟨by decide +kernel, by decide +kernel⟩, List.mem_of_getElem? (i := 737) (by decide +kernel), List.mem_of_getElem? (i := 903) (by decide +kernel), List.mem_of_getElem? (i := 904) (by decide +kernel)⟩
theorem lw_p20 : lw_okq (⟨"TraceAlignerModel", "enabledIn", "(I)I"⟩, 29) := ⟨⟨by decide +kernel, by decide +kernel⟩, List.mem_of_getElem? (i := 737) (by decide +kernel), List.mem_of_getElem? (i := 911) (by decide +kernel), List.mem_of_getElem? (i := 912) (by decide +kernel)⟩
theorem lw_p21 : lw_okq (⟨"TraceAlignerModel", "isTrace", "(I)Z"⟩, 29) := ⟨⟨by decide +kernel, by decide +kernel⟩, List.mem_of_getElem? (i := 737) (by decide +kernel), List.mem_of_getElem? (i := 952) (by decide +kernel), List.mem_of_getElem? (i := 953) (by decide +kernel)⟩
theorem lw_p22 : lw_okq (⟨"TraceAlignerModel", "asksTrace", "(I)Z"⟩, 29) := ⟨⟨by decide +kernel, by decide +kernel⟩, List.mem_of_getElem? (i := 737) (by decide +kernel), List.mem_of_getElem? (i := 968) (by decide +kernel), List.mem_of_getElem? (i := 969) (by decide +kernel)⟩
theorem lw_p23 : lw_okq (⟨"TraceAlignerModel", "costOf", "(I)I"⟩, 29) := ⟨⟨by decide +kernel, by decide +kernel⟩, List.mem_of_getElem? (i := 737) (by decide +kernel), List.mem_of_getElem? (i := 972) (by decide +kernel), List.mem_of_getElem? (i := 973) (by decide +kernel)⟩
theorem lw_p24 : lw_okq (⟨"TraceAlignerModel", "weigh", "(II)V"⟩, 29) := ⟨⟨by decide +kernel, by decide +kernel⟩, List.mem_of_getElem? (i := 737) (by decide +kernel), List.mem_of_getElem? (i := 976) (by decide +kernel), List.mem_of_getElem? (i := 977) (by decide +kernel)⟩
theorem lw_p25 : lw_okq (⟨"TraceAlignerModel", "weightBy", "(IIII)I"⟩, 29) := ⟨⟨by decide +kernel, by decide +kernel⟩, List.mem_of_getElem? (i := 737) (by decide +kernel), List.mem_of_getElem? (i := 981) (by decide +kernel), List.mem_of_getElem? (i := 982) (by decide +kernel)⟩
theorem lw_p26 : lw_okq (⟨"TraceAlignerModel", "behind", "(IIII)I"⟩, 29) := ⟨⟨by decide +kernel, by decide +kernel⟩, List.mem_of_getElem? (i := 737) (by decide +kernel), List.mem_of_getElem? (i := 985) (by decide +kernel), List.mem_of_getElem? (i := 986) (by decide +kernel)⟩
theorem lw_p27 : lw_okq (⟨"TraceAlignerModel", "labelAt", "(I)I"⟩, 29) := ⟨⟨by decide +kernel, by decide +kernel⟩, List.mem_of_getElem? (i := 737) (by decide +kernel), List.mem_of_getElem? (i := 989) (by decide +kernel), List.mem_of_getElem? (i := 990) (by decide +kernel)⟩
theorem lw_p28 : lw_okq (⟨"TraceAlignerModel", "weightOf", "(III)I"⟩, 29) := ⟨⟨by decide +kernel, by decide +kernel⟩, List.mem_of_getElem? (i := 737) (by decide +kernel), List.mem_of_getElem? (i := 993) (by decide +kernel), List.mem_of_getElem? (i := 994) (by decide +kernel)⟩
theorem lw_p29 : lw_okq (⟨"TraceAlignerModel", "weightAt", "(II)I"⟩, 29) := ⟨⟨by decide +kernel, by decide +kernel⟩, List.mem_of_getElem? (i := 737) (by decide +kernel), List.mem_of_getElem? (i := 998) (by decide +kernel), List.mem_of_getElem? (i := 999) (by decide +kernel)⟩
theorem lw_p30 : lw_okq (⟨"TraceAlignerModel", "follow", "(I)I"⟩, 29) := ⟨⟨by decide +kernel, by decide +kernel⟩, List.mem_of_getElem? (i := 737) (by decide +kernel), List.mem_of_getElem? (i := 1006) (by decide +kernel), List.mem_of_getElem? (i := 1007) (by decide +kernel)⟩
theorem lw_p31 : lw_okq (⟨"TraceAlignerModel", "takesSome", "(I)Z"⟩, 29) := ⟨⟨by decide +kernel, by decide +kernel⟩, List.mem_of_getElem? (i := 737) (by decide +kernel), List.mem_of_getElem? (i := 1010) (by decide +kernel), List.mem_of_getElem? (i := 1011) (by decide +kernel)⟩
def lw_privs_2 : List (MethodName × Nat) := [(⟨"TraceAlignerModel", "look", "()V"⟩, 29), (⟨"TraceAlignerModel", "fire", "(II)I"⟩, 29), (⟨"TraceAlignerModel", "numberOf", "(I)I"⟩, 29), (⟨"TraceAlignerModel", "asks", "(I)Z"⟩, 29), (⟨"TraceAlignerModel", "enabledIn", "(I)I"⟩, 29), (⟨"TraceAlignerModel", "isTrace", "(I)Z"⟩, 29), (⟨"TraceAlignerModel", "asksTrace", "(I)Z"⟩, 29), (⟨"TraceAlignerModel", "costOf", "(I)I"⟩, 29), (⟨"TraceAlignerModel", "weigh", "(II)V"⟩, 29), (⟨"TraceAlignerModel", "weightBy", "(IIII)I"⟩, 29), (⟨"TraceAlignerModel", "behind", "(IIII)I"⟩, 29), (⟨"TraceAlignerModel", "labelAt", "(I)I"⟩, 29), (⟨"TraceAlignerModel", "weightOf", "(III)I"⟩, 29), (⟨"TraceAlignerModel", "weightAt", "(II)I"⟩, 29), (⟨"TraceAlignerModel", "follow", "(I)I"⟩, 29), (⟨"TraceAlignerModel", "takesSome", "(I)Z"⟩, 29)]
theorem lw_r2 : ∀ q ∈ lw_privs_2, lw_okq q := List.forall_mem_cons.mpr ⟨lw_p16, List.forall_mem_cons.mpr ⟨lw_p17, List.forall_mem_cons.mpr ⟨lw_p18, List.forall_mem_cons.mpr ⟨lw_p19, List.forall_mem_cons.mpr ⟨lw_p20, List.forall_mem_cons.mpr ⟨lw_p21, List.forall_mem_cons.mpr ⟨lw_p22, List.forall_mem_cons.mpr ⟨lw_p23, List.forall_mem_cons.mpr ⟨lw_p24, List.forall_mem_cons.mpr ⟨lw_p25, List.forall_mem_cons.mpr ⟨lw_p26, List.forall_mem_cons.mpr ⟨lw_p27, List.forall_mem_cons.mpr ⟨lw_p28, List.forall_mem_cons.mpr ⟨lw_p29, List.forall_mem_cons.mpr ⟨lw_p30, List.forall_mem_cons.mpr ⟨lw_p31, fun _ h => absurd h List.not_mem_nil⟩⟩⟩⟩⟩⟩⟩⟩⟩⟩⟩⟩⟩⟩⟩⟩
theorem lw_p32 : lw_okq (⟨"TraceAlignerModel", "takes", "(II)Z"⟩, 29) := ⟨⟨by decide +kernel, by decide +kernel⟩, List.mem_of_getElem? (i := 737) (by decide +kernel), List.mem_of_getElem? (i := 1014) (by decide +kernel), List.mem_of_getElem? (i := 1015) (by decide +kernel)⟩
theorem lw_p33 : lw_okq (⟨"TraceAlignerModel", "worstOf", "(I)I"⟩, 29) := ⟨⟨by decide +kernel, by decide +kernel⟩, List.mem_of_getElem? (i := 737) (by decide +kernel), List.mem_of_getElem? (i := 1026) (by decide +kernel), List.mem_of_getElem? (i := 1027) (by decide +kernel)⟩
def lw_privs_3 : List (MethodName × Nat) := [(⟨"TraceAlignerModel", "takes", "(II)Z"⟩, 29), (⟨"TraceAlignerModel", "worstOf", "(I)I"⟩, 29)]
theorem lw_r3 : ∀ q ∈ lw_privs_3, lw_okq q := List.forall_mem_cons.mpr ⟨lw_p32, List.forall_mem_cons.mpr ⟨lw_p33, fun _ h => absurd h List.not_mem_nil⟩⟩
def lw_privs : List (MethodName × Nat) := lw_privs_1 ++ (lw_privs_2 ++ (lw_privs_3))
def lw_tbl : List Cond := k2_sels lw_privs ++ tables_1
theorem lw_privs_ok : ∀ q ∈ lw_privs, lw_okq q := by
  show ∀ q ∈ lw_privs_1 ++ (lw_privs_2 ++ (lw_privs_3)), lw_okq q
  exact List.forall_mem_append.mpr ⟨lw_r1, List.forall_mem_append.mpr ⟨lw_r2, lw_r3⟩⟩
/-- the streams that the claim lets the run draw from -/
abbrev lw_cs : List Choice := [Jvm.Choice.named "NaN.bits"]
theorem lw_bits : nanBits ∈ lw_cs := by first | decide | exact List.mem_cons_self | simp [lw_cs, nanBits]
end
section
/-! ===== BEGIN words of one list among another's, by their places ===== -/
theorem goodIn_r {big : List Cond} (ws : List Cond) (ps : List Nat) (hp : ws = ps.filterMap (fun i => big[i]?)) (h : ws.all goodWord = true) : GoodIn big ws := by
  intro w hw
  have h1 := List.all_eq_true.mp h w hw
  rw [hp] at hw
  obtain ⟨i, -, hi⟩ := List.mem_filterMap.mp hw
  have hm : w ∈ big := by first | exact List.mem_of_getElem? hi | exact List.getElem?_mem hi
  exact ⟨hm, good_of_word h1⟩
theorem goodIn_app {big a b : List Cond} (ha : GoodIn big a) (hb : GoodIn big b) : GoodIn big (a ++ b) := fun w h => (List.mem_append.mp h).elim (ha w) (hb w)
theorem goodIn_ca {big a b : List Cond} {c : Cond} (ha : GoodIn big (c :: a)) (hb : GoodIn big b) : GoodIn big (c :: (a ++ b)) := fun w h => (List.mem_cons.mp h).elim (fun e => ha w (List.mem_cons.mpr (Or.inl e))) (fun h => (List.mem_append.mp h).elim (fun h => ha w (List.mem_cons.mpr (Or.inr h))) (hb w))
theorem goodIn_sub {big ws : List Cond} (hm : ∀ w ∈ ws, w ∈ big) (h : ws.all goodWord = true) : GoodIn big ws := fun w hw => ⟨hm w hw, good_of_word (List.all_eq_true.mp h w hw)⟩
/-! ===== END ===== -/
/-! ===== BEGIN exceptions that leave a method, and their catching by the caller (launches without stack traces) ===== -/
section VXA
/-! The laws vx_back, vx_callV, vx_callS, vx_callSW, vx_throw0, vx_throwS follow proofs of the library, with one case more: JvmDerived/Free/Laws.lean (Back.of_free), Shelf42/LK1.lean (callV, callS), Shelf/KitTraced.lean (throwNew0V, throwNewS). -/
/-- where a method has thrown q: the class by its name, the cell, what was written, the world -/
def vx_T (XC : String → State → State → Prop) (st : State) (q : Addr) (t : State) (mc ms : Nat) (free : Addr → Prop) : Prop :=
  ∃ (E : String) (ce : Cell) (L : List Loc), XC E st t ∧ t.heap[q]? = some ce ∧ ce.vm = .none ∧ st.vm.findClass E = some ce.cls ∧ st.WarmedH t.vm ∧ st.sameButNew ({ t with vm := st.vm } : State) L mc ms ∧ ∀ z ∈ L, free z.base
def vx_Q (Qc : Array Value → State → Outcome → State → Prop) (XC : String → State → State → Prop) (mc ms : Nat) (free : Addr → Prop) : Array Value → State → Outcome → State → Prop := fun a st o t =>
  (Qc a st o t ∧ ∃ L, FrameEnd st o t L mc ms ∧ ∀ q ∈ L, free q.base) ∨ ∃ q, o = .threw q ∧ vx_T XC st q t mc ms free
/-- a callee that returns or throws -/
def vx_Met (l : Launch) (y : MethodName) (ws : List Cond) (rm : Room) (Pc : Array Value → State → Prop) (Qc : Array Value → State → Outcome → State → Prop) (XC : String → State → State → Prop) (mc ms : Nat) (free : Addr → Prop) : Prop :=
  MetFree l y (headSpec ws rm) Pc (fun _ _ _ _ _ => True) (vx_Q Qc XC mc ms free)
def vx_Post (XC : String → State → State → Prop) (mc ms : Nat) (free : Addr → Prop) : Pt → Array Value → Addr → Pt → Prop := fun A a q B =>
  ∃ (g : JFrame) (mk : MethodId) (t : State) (L : List Loc) (E : String) (ce : Cell), B.U.heap = t.heap ∧ B.U.vm = t.vm ∧ XC E (A.U.calling g mk a) t ∧ t.heap[q]? = some ce ∧ ce.vm = .none ∧ A.U.vm.findClass E = some ce.cls ∧ B.locs = A.locs ++ L ∧ (∀ z ∈ L, free z.base) ∧ B.cells = A.cells + mc ∧ B.slots = A.slots + ms
def vx_Back (l : Launch) (R : Room) (p : Program) (e : Env) (below : List Frame) (s : State) (sargs : Array Value) (y : MethodName) (len W9 : Nat)
    (Pre : Pt → Array Value → Prop) (Post : Pt → Array Value → Option Value → Pt → Prop) (PostX : Pt → Array Value → Addr → Pt → Prop) : Prop :=
  ∀ (m : MethodId) (meth : Method) (c : Code) (A : Pt) (g : JFrame) (ig : Instr) (mk : MethodId) (a : Array Value),
    Stand p l e R s m sargs below meth c A.U A.locs A.cells A.slots → g.method = m → g.locals.size = c.maxLocals → decode c.code g.pc = .ok (ig, len) →
    2 * g.monitorRoom + (g.stack.map fun v => v.category).sum ≤ W9 → A.U.methodNamed? y = some mk → Pre A a →
    (∃ (v : Option Value) (B : Pt), Stand p l e R s m sargs below meth c B.U B.locs B.cells B.slots ∧ Post A a v B ∧
      Steps p.tables e below (doInvoke e (A.U.setTop g) [] mk a).1 (B.U.setTop { g with pc := g.pc + len, stack := v.toList ++ g.stack })) ∨
    (∃ (q : Addr) (B : Pt), Stand p l e R s m sargs below meth c B.U B.locs B.cells B.slots ∧ PostX A a q B ∧
      Steps p.tables e below (doInvoke e (A.U.setTop g) [] mk a).1 ((B.U.setTop g).pushFrame (.throwing q)))
section Payer
variable {l : Launch} {R : Room} {p : Program} {e : Env} {below : List Frame} {s : State} {sargs : Array Value} {y : MethodName} {len W9 : Nat}
theorem vx_back {ws : List Cond} {rm : Room} {Pc : Array Value → State → Prop} {Qc : Array Value → State → Outcome → State → Prop} {XC : String → State → State → Prop} {mc ms : Nat} {free : Addr → Prop} {bytes : ByteArray} {maxL : Nat} {ret : Option FieldType}
    (hM : vx_Met l y ws rm Pc Qc XC mc ms free) (hblind : FrameBlind Pc) (hrc : rm.cells = mc) (hrs : rm.slots = ms)
    (hframes : rm.frames + 1 ≤ R.frames) (hlocals : W9 + (maxL + 11) + rm.locals ≤ R.locals)
    (hws : ∀ w ∈ ws, ∀ a' U, s.WarmedH U.vm → w.before a' U = true) (hcode : Cond.code y bytes maxL ret ∈ ws) (hinit : ∀ a' U, s.WarmedH U.vm → (Cond.initialized y.cls).before a' U = true) :
    vx_Back l R p e below s sargs y len W9 (PreOf R mc ms Pc) (PostOf Qc mc ms free) (vx_Post XC mc ms free) := by
  intro m meth c A g ig mk a X hg hsize hdg hW hn hp
  have h1 : (headSpec ws rm).pre.before a A.U = true := atoms_intro fun w hw => hws w hw _ _ X.warmed
  have h2 : (Cond.code y bytes maxL ret).before a A.U = true := hws _ hcode _ _ X.warmed
  have h3 : (Cond.initialized y.cls).before a A.U = true := hinit _ _ X.warmed
  have h4 : A.cells + (headSpec ws rm).room.cells ≤ R.cells := by rw [show (headSpec ws rm).room.cells = mc from hrc]; exact hp.1
  have h5 : A.slots + (headSpec ws rm).room.slots ≤ R.slots := by rw [show (headSpec ws rm).room.slots = ms from hrs]; exact hp.2.1
  have hPc : Pc a (A.U.calling g mk a) := hblind _ _ _ _ hp.2.2
  obtain ⟨U, Ls, c0, s0⟩ := A
  dsimp only [Pt.U, Pt.locs, Pt.cells, Pt.slots] at h1 h2 h3 h4 h5 X hn hPc ⊢
  obtain ⟨methY, cY, hmY, hcY, -, hlY, -, -, -, -⟩ := Cond.code_spec hn h2
  obtain ⟨kY, hkY, -⟩ := className_of_methodNamed hn
  have hinitY : kY.init = .initialized := Cond.initialized_spec (findClass_of_methodNamed hn) hkY h3
  have h : At U g.method c below := by rw [hg]; exact X.here
  have hlocals9 : W9 + (maxL + 11) + (headSpec ws rm).room.locals ≤ R.locals := hlocals
  have happ : (headSpec ws rm).appliesLoose y e.platform (U.calling g mk a) = true :=
    Spec.appliesLoose_calling (g := g) h hdg hn hkY hinitY
      (X.room_calling (g := g) (R' := (headSpec ws rm).room) hsize hmY hcY hframes (by rw [hlY]; omega) h4 h5) h1
  obtain ⟨mid, hmid⟩ := h.above
  have hfr : (U.setTop g).frames = (.java g :: mid) ++ below := by rw [State.frames_setTop' g h.top, hmid]; rfl
  obtain ⟨o, s₂, hsteps, -, hend, hq⟩ := Steps.callFree hM p X.admits X.cas X.clock (acts := []) hfr happ hPc trivial
  have hq' : vx_Q Qc XC mc ms free a (U.calling g mk a) o s₂ := hq
  rw [State.frames_setTop' g h.top] at hend
  obtain ⟨g₀, hg0⟩ := Option.isSome_iff_exists.mp h.top
  obtain ⟨r, hr⟩ := State.topJava?_eq_some.mp hg0
  have hr' : (({ U with heap := s₂.heap, slotsUsed := s₂.slotsUsed } : State).setVm s₂.vm).frames = .java g₀ :: r := hr
  rcases hq' with ⟨hqc, L, hfe, hL⟩ | ⟨q, rfl, E, ce, L, hx, hce, hcv, hcl, hW₂, hsm, hL⟩
  · obtain ⟨⟨v, rfl⟩, hW₂, e2, q2, q3, q4, q5, q6⟩ := id hfe
    have e3 : s₂ = ({ (U.calling g mk a).setFrames s₂.frames with heap := s₂.heap, slotsUsed := s₂.slotsUsed } : State).setVm s₂.vm := by
      have : s₂ = ({ s₂ with vm := (U.calling g mk a).vm } : State).setVm s₂.vm := rfl
      rw [e2] at this
      exact this
    obtain ⟨c₂, i₂, len₂, hc₂, hd₂, hf₂⟩ := hend
    have hW' : U.WarmedH s₂.vm := hW₂
    have hcc : c₂ = c := by
      have h1 : s₂.code? g.method = U.code? g.method := by
        rw [State.code?_eq, State.code?_eq, hW'.alike.method?]
      exact Option.some.inj (hc₂.symm.trans (h1.trans h.code))
    subst hcc
    have hlen : len₂ = len := by rw [hdg] at hd₂; cases hd₂; rfl
    subst hlen
    have hs₂ : s₂ = (({ U with heap := s₂.heap, slotsUsed := s₂.slotsUsed } : State).setVm s₂.vm).setTop { g with pc := g.pc + len₂, stack := v.toList ++ g.stack } := by
      refine e3.trans ?_
      rw [hf₂, State.calling_eq h.top, State.setFrames_setFrames, State.setTop_of_frames _ hr', hr]
      rfl
    have hsame : U.sameButNew ({ U with heap := s₂.heap, slotsUsed := s₂.slotsUsed } : State) L mc ms := by
      refine ⟨?_, q2, q3, q4, q5, q6⟩
      obtain ⟨t, ht, -⟩ := State.frames_cons hr
      show ({ U with heap := s₂.heap, slotsUsed := s₂.slotsUsed } : State) = { U.setFrames U.frames with heap := s₂.heap, slotsUsed := s₂.slotsUsed }
      rw [State.setFrames_self ht]
    subst hg
    refine Or.inl ⟨v, ⟨(({ U with heap := s₂.heap, slotsUsed := s₂.slotsUsed } : State).setVm s₂.vm), Ls ++ L, c0 + mc, s0 + ms⟩,
      ⟨X.admits, X.cas, X.clock, X.frames, X.room, X.hears, X.method, X.code, (X.here.setHeapUsed s₂.heap s₂.slotsUsed).setVm hW'.alike, X.tail, State.WarmedH.trans X.warmed hW', X.limits, X.bytes, X.same.trans (hsame.setVm s.vm)⟩,
      ⟨g, mk, s₂, L, rfl, rfl, hqc, rfl, hL, rfl, rfl⟩, ?_⟩
    show Steps p.tables e below _ ((({ U with heap := s₂.heap, slotsUsed := s₂.slotsUsed } : State).setVm s₂.vm).setTop { g with pc := g.pc + len₂, stack := v.toList ++ g.stack })
    rw [← hs₂]
    exact hsteps
  · obtain ⟨e2, q2, q3, q4, q5, q6⟩ := id hsm
    have e3 : s₂ = ({ (U.calling g mk a).setFrames s₂.frames with heap := s₂.heap, slotsUsed := s₂.slotsUsed } : State).setVm s₂.vm := by
      have : s₂ = ({ s₂ with vm := (U.calling g mk a).vm } : State).setVm s₂.vm := rfl
      rw [e2] at this
      exact this
    have hf₂ : s₂.frames = .throwing q :: .java g :: U.frames.tail := hend
    have hW' : U.WarmedH s₂.vm := hW₂
    have hs₂ : s₂ = ((({ U with heap := s₂.heap, slotsUsed := s₂.slotsUsed } : State).setVm s₂.vm).setTop g).pushFrame (.throwing q) := by
      refine e3.trans ?_
      rw [hf₂, State.calling_eq h.top, State.setFrames_setFrames, State.pushFrame, State.frames_setTop _ hr', State.setTop_of_frames _ hr', State.setFrames_setFrames, hr]
      rfl
    have hsame : U.sameButNew ({ U with heap := s₂.heap, slotsUsed := s₂.slotsUsed } : State) L mc ms := by
      refine ⟨?_, q2, q3, q4, q5, q6⟩
      obtain ⟨t, ht, -⟩ := State.frames_cons hr
      show ({ U with heap := s₂.heap, slotsUsed := s₂.slotsUsed } : State) = { U.setFrames U.frames with heap := s₂.heap, slotsUsed := s₂.slotsUsed }
      rw [State.setFrames_self ht]
    subst hg
    refine Or.inr ⟨q, ⟨(({ U with heap := s₂.heap, slotsUsed := s₂.slotsUsed } : State).setVm s₂.vm), Ls ++ L, c0 + mc, s0 + ms⟩,
      ⟨X.admits, X.cas, X.clock, X.frames, X.room, X.hears, X.method, X.code, (X.here.setHeapUsed s₂.heap s₂.slotsUsed).setVm hW'.alike, X.tail, State.WarmedH.trans X.warmed hW', X.limits, X.bytes, X.same.trans (hsame.setVm s.vm)⟩,
      ⟨g, mk, s₂, L, E, ce, rfl, rfl, hx, hce, hcv, hcl, rfl, hL, rfl, rfl⟩, ?_⟩
    show Steps p.tables e below _ (((({ U with heap := s₂.heap, slotsUsed := s₂.slotsUsed } : State).setVm s₂.vm).setTop g).pushFrame (.throwing q))
    rw [← hs₂]
    exact hsteps
end Payer
section Calls
variable {p : Program} {l : Launch} {e : Env} {R : Room} {s : State} {m : MethodId} {args : Array Value} {below : List Frame} {meth : Method} {c : Code} {T : State} {locs : List Loc} {cells slots : Nat}
theorem vx_callV (X : Stand p l e R s m args below meth c T locs cells slots) (hexec : p.tables.exec = Jvm.exec) {own C : String} {index : Nat} {y : MethodName} {bytes : ByteArray} {maxL : Nat} {ret : Option FieldType}
    (hown : s.vm.findClass own = some m.cls) (hlink : (Cond.methodLink own index y).before args s = true) (hinst : (Cond.instanceMethod y).before args s = true) (hsel : (Cond.selects C y y).before args s = true)
    (hcode : (Cond.code y bytes maxL ret).before args s = true) (hy : y.cls ≠ "java/lang/invoke/MethodHandle" ∧ y.cls ≠ "java/lang/invoke/VarHandle")
    {W9 : Nat} {Pre : Pt → Array Value → Prop} {Post : Pt → Array Value → Option Value → Pt → Prop} {PostX : Pt → Array Value → Addr → Pt → Prop} (hK : vx_Back l R p e below s args y 3 W9 Pre Post PostX)
    {b : Addr} {cellB : Cell} (hcell : T.heap[b]? = some cellB) (hobj : cellB.vm.isStatics = false) (hcls : s.vm.findClass C = some cellB.cls)
    {g : JFrame} (hg : g.method = m) (hsize : g.locals.size = c.maxLocals) {argsL rest : List Value} (hlen : ∀ sig, parseMethodDescriptor y.desc = some sig → argsL.length = sig.parameters.length)
    (hstack : g.stack = argsL.reverse ++ .ref b :: rest) (hW : 2 * g.monitorRoom + (rest.map fun v => v.category).sum ≤ W9) (hdg : decode c.code g.pc = .ok (.invokevirtual index, 3))
    (hpre : ∀ vm₁, s.WarmedH vm₁ → Pre ⟨T.setVm vm₁, locs, cells, slots⟩ (Value.ref b :: argsL).toArray) :
    (∃ (v : Option Value) (vm₁ : Vm) (B : Pt), s.WarmedH vm₁ ∧ Stand p l e R s m args below meth c B.U B.locs B.cells B.slots ∧ Post ⟨T.setVm vm₁, locs, cells, slots⟩ (Value.ref b :: argsL).toArray v B ∧
      ∀ target, Steps p.tables e below (B.U.setTop { g with pc := g.pc + 3, stack := v.toList ++ rest }) target → Steps p.tables e below (T.setTop g) target) ∨
    (∃ (q : Addr) (vm₁ : Vm) (B : Pt), s.WarmedH vm₁ ∧ Stand p l e R s m args below meth c B.U B.locs B.cells B.slots ∧ PostX ⟨T.setVm vm₁, locs, cells, slots⟩ (Value.ref b :: argsL).toArray q B ∧
      Steps p.tables e below (T.setTop g) ((B.U.setTop { g with stack := rest }).pushFrame (.throwing q))) := by
  obtain ⟨mk, methM, hnamed, hmethM, hstM, habM⟩ := Cond.instanceMethod_spec hinst
  obtain ⟨methM', cM, hmethM', -, -, -, -, -, -, hsigM⟩ := Cond.code_spec hnamed hcode
  cases hmethM.symm.trans hmethM'
  obtain ⟨c2, r2, m2, q1, q2, q3, q4, kP, hkP, hkPi⟩ := Cond.selects_spec hsel
  cases hcls.symm.trans q1
  cases (State.methodFound?_of_named hnamed hy).symm.trans q2
  cases hnamed.symm.trans q3
  have hselP : selectMethod e.platform s.vm cellB.cls mk = .method mk := by rw [Launch.admits_selectMethod X.admits]; exact q4
  obtain ⟨vm₁, X₁, hstep₁⟩ := X.invokevirtual hexec hown hlink hnamed hmethM hstM hkP hkPi hy (a := b) (cell := cellB) hcell
    (fun z h => by rw [h] at hobj; cases hobj) hselP hmethM habM hkP hkPi (g := g) hg (argsL := argsL) (rest := rest) (hlen _ hsigM) hstack hdg
  rcases hK m meth c ⟨T.setVm vm₁, locs, cells, slots⟩ { g with stack := rest } (.invokevirtual index) mk (Value.ref b :: argsL).toArray X₁ hg hsize hdg hW (X₁.named hnamed) (hpre vm₁ X₁.warmed) with ⟨v, B, X', hpost, hsteps⟩ | ⟨q, B, X', hpost, hsteps⟩
  · exact Or.inl ⟨v, vm₁, B, X₁.warmed, X', hpost, fun target h => hstep₁ _ fun acts => by rw [doInvoke_state]; exact hsteps.trans h⟩
  · exact Or.inr ⟨q, vm₁, B, X₁.warmed, X', hpost, hstep₁ _ fun acts => by rw [doInvoke_state]; exact hsteps⟩
theorem vx_callS (X : Stand p l e R s m args below meth c T locs cells slots) (hexec : p.tables.exec = Jvm.exec) {own : String} {index : Nat} {y : MethodName} {bytes : ByteArray} {maxL : Nat} {ret : Option FieldType}
    (hown : s.vm.findClass own = some m.cls) (hlink : (Cond.methodLink own index y).before args s = true) (hstat : (Cond.static y).before args s = true) (hinit : (Cond.initialized y.cls).before args s = true)
    (hcode : (Cond.code y bytes maxL ret).before args s = true) (hy : y.cls ≠ "java/lang/invoke/MethodHandle" ∧ y.cls ≠ "java/lang/invoke/VarHandle")
    {W9 : Nat} {Pre : Pt → Array Value → Prop} {Post : Pt → Array Value → Option Value → Pt → Prop} {PostX : Pt → Array Value → Addr → Pt → Prop} (hK : vx_Back l R p e below s args y 3 W9 Pre Post PostX)
    {g : JFrame} (hg : g.method = m) (hsize : g.locals.size = c.maxLocals) {argsL rest : List Value} (hlen : ∀ sig, parseMethodDescriptor y.desc = some sig → argsL.length = sig.parameters.length)
    (hstack : g.stack = argsL.reverse ++ rest) (hW : 2 * g.monitorRoom + (rest.map fun v => v.category).sum ≤ W9) (hdg : decode c.code g.pc = .ok (.invokestatic index, 3))
    (hpre : ∀ vm₁, s.WarmedH vm₁ → Pre ⟨T.setVm vm₁, locs, cells, slots⟩ argsL.toArray) :
    (∃ (v : Option Value) (vm₁ : Vm) (B : Pt), s.WarmedH vm₁ ∧ Stand p l e R s m args below meth c B.U B.locs B.cells B.slots ∧ Post ⟨T.setVm vm₁, locs, cells, slots⟩ argsL.toArray v B ∧
      ∀ target, Steps p.tables e below (B.U.setTop { g with pc := g.pc + 3, stack := v.toList ++ rest }) target → Steps p.tables e below (T.setTop g) target) ∨
    (∃ (q : Addr) (vm₁ : Vm) (B : Pt), s.WarmedH vm₁ ∧ Stand p l e R s m args below meth c B.U B.locs B.cells B.slots ∧ PostX ⟨T.setVm vm₁, locs, cells, slots⟩ argsL.toArray q B ∧
      Steps p.tables e below (T.setTop g) ((B.U.setTop { g with stack := rest }).pushFrame (.throwing q))) := by
  obtain ⟨mk, hnamed⟩ := Cond.code_named hcode
  obtain ⟨methM, cM, hmethM, -, -, -, -, -, -, hsigM⟩ := Cond.code_spec hnamed hcode
  have hstatic : methM.isStatic = true := Cond.static_spec hnamed hmethM hstat
  obtain ⟨kP, hkP, -⟩ := className_of_methodNamed hnamed
  have hinitP : kP.init = .initialized := Cond.initialized_spec (findClass_of_methodNamed hnamed) hkP hinit
  obtain ⟨vm₁, X₁, hstep₁⟩ := X.invokestatic hexec hown hlink hnamed hmethM hstatic hkP hinitP hy (g := g) hg (argsL := argsL) (rest := rest) (hlen _ hsigM) hstack hdg
  rcases hK m meth c ⟨T.setVm vm₁, locs, cells, slots⟩ { g with stack := rest } (.invokestatic index) mk argsL.toArray X₁ hg hsize hdg hW (X₁.named hnamed) (hpre vm₁ X₁.warmed) with ⟨v, B, X', hpost, hsteps⟩ | ⟨q, B, X', hpost, hsteps⟩
  · exact Or.inl ⟨v, vm₁, B, X₁.warmed, X', hpost, fun target h => hstep₁ _ fun acts => by rw [doInvoke_state]; exact hsteps.trans h⟩
  · exact Or.inr ⟨q, vm₁, B, X₁.warmed, X', hpost, hstep₁ _ fun acts => by rw [doInvoke_state]; exact hsteps⟩
end Calls
theorem vx_cls {s : State} {T : State} {vm₁ : Vm} {E : String} {k : ClassId} (hW : s.WarmedH vm₁) (h : (T.setVm vm₁).vm.findClass E = some k) : s.vm.findClass E = some k := by
  have h1 : vm₁.findClass E = some k := h
  rw [hW.alike.findClass] at h1
  exact h1
/-- the method's frame g, with q thrown over it -/
def vx_W (p : Program) (l : Launch) (e : Env) (R : Room) (s : State) (m : MethodId) (args : Array Value) (below : List Frame) (meth : Method) (c : Code) (H : Heap) (locs : List Loc) (cells slots : Nat) (Q : State → Prop) (g : JFrame) (q : Addr) : Prop :=
  ∀ T : State, T.heap = H → Stand p l e R s m args below meth c T locs cells slots → ∃ t, Steps p.tables e below ((T.setTop g).pushFrame (.throwing q)) t ∧ Q t
def vx_Run (p : Program) (l : Launch) (e : Env) (R : Room) (s : State) (m : MethodId) (args : Array Value) (below : List Frame) (meth : Method) (c : Code) (H : Heap) (locs : List Loc) (cells slots mc ms : Nat) (g : JFrame) (rest : List Value) (Qa : State → Outcome → State → Prop) (XC : String → State → State → Prop) (free : Addr → Prop) : Prop :=
  ∀ T : State, T.heap = H → Stand p l e R s m args below meth c T locs cells slots →
    (∃ (v : Option Value) (st₀ t T' : State) (L : List Loc), st₀.heap = H ∧ Stand p l e R s m args below meth c T' (locs ++ L) (cells + mc) (slots + ms) ∧ (∀ q ∈ L, free q.base) ∧ T'.heap = t.heap ∧ T'.vm = t.vm ∧ Qa st₀ (.returned v) t ∧
      Goes p e below T g T' { g with pc := g.pc + 3, stack := v.toList ++ rest }) ∨
    (∃ (q : Addr) (st₀ t T' : State) (L : List Loc) (E : String) (ce : Cell), st₀.heap = H ∧ Stand p l e R s m args below meth c T' (locs ++ L) (cells + mc) (slots + ms) ∧ (∀ z ∈ L, free z.base) ∧ T'.heap = t.heap ∧ T'.vm = t.vm ∧ XC E st₀ t ∧ t.heap[q]? = some ce ∧ ce.vm = .none ∧ s.vm.findClass E = some ce.cls ∧
      Steps p.tables e below (T.setTop g) ((T'.setTop { g with stack := rest }).pushFrame (.throwing q)))
def vx_X {S : Type} (px : S → Prop) (B : String → S → State → Prop) (A : Nat → Prop) : String → State → State → Prop := fun E st t => ∃ u : S, px u ∧ B E u t ∧ va_F A st t
section Runs
variable {p : Program} {l : Launch} {e : Env} {R : Room} {s : State} {m : MethodId} {args : Array Value} {below : List Frame} {meth : Method} {c : Code} {H : Heap} {locs : List Loc} {cells slots : Nat}
variable {y : MethodName} {bytes cc : ByteArray} {maxL nL mc ms n index : Nat} {ret : Option FieldType} {ws : List Cond} {rm : Room} {Pc : Array Value → State → Prop} {Qc : Array Value → State → Outcome → State → Prop} {XC : String → State → State → Prop} {free : Addr → Prop} {Ts : List Cond} {own C : String} {b : Addr} {As rest : List Value} {g : JFrame}
theorem vx_callBack (cb : CallB R s args own index y bytes maxL ret ws rm mc ms n) (hM : vx_Met l y ws rm Pc Qc XC mc ms free) (hbl : FrameBlind Pc) : vx_Back l R p e below s args y 3 8 (PreOf R mc ms Pc) (PostOf Qc mc ms free) (vx_Post XC mc ms free) := by
  obtain ⟨hrc, hrs, hfr, hlo, hws, hcw, -, hini, -⟩ := cb
  exact vx_back (bytes := bytes) (maxL := maxL) (ret := ret) hM hbl hrc hrs hfr hlo hws hcw (fun a' U hW => word_at hW (Or.inl (by first | rfl | simp [Cond.onTables, Cond.keeps, Cond.steady])) hini)
theorem vx_runV (S : CallFix p m c cc nL s args Ts own) (hM : vx_Met l y ws rm Pc Qc XC mc ms free) (cw : CallW R s args own C index y bytes maxL ret ws rm mc ms n) (hp : PreV s H C b Pc As)
    (hg : g.method = m) (hn : As.length = n) (hsize : g.locals.size = nL) (hstack : g.stack = As.reverse ++ .ref b :: rest) (hW : 2 * g.monitorRoom + (rest.map fun v => v.category).sum ≤ 8) (hdg : decode cc g.pc = .ok (.invokevirtual index, 3)) (hf : cells + mc ≤ R.cells ∧ slots + ms ≤ R.slots) :
    vx_Run p l e R s m args below meth c H locs cells slots mc ms g rest (Qc (Value.ref b :: As).toArray) XC free := by
  have hK : vx_Back l R p e below s args y 3 8 (PreOf R mc ms Pc) (PostOf Qc mc ms free) (vx_Post XC mc ms free) := vx_callBack cw.1 hM hp.1
  obtain ⟨⟨-, -, -, -, -, -, hcode, -, hy, hlen, hl⟩, hin, hse⟩ := cw
  obtain ⟨hx, hb, hml, ho, -⟩ := S
  obtain ⟨-, ⟨cellB, hcB, hoB, hclB⟩, hPc⟩ := hp
  intro T hT X
  rcases vx_callV X hx (C := C) (bytes := bytes) (maxL := maxL) (ret := ret) ho hl hin hse hcode hy hK (by rw [hT]; exact hcB) hoB hclB hg (hsize.trans hml.symm) (argsL := As) (rest := rest) (fun sig h => hn.trans (hlen sig h)) hstack hW (by rw [hb]; exact hdg)
    (fun vm₁ hW₁ => ⟨hf.1, hf.2, hPc (T.setVm vm₁) hT hW₁⟩) with ⟨v, vm₁, ⟨U', l2, c2, s2⟩, hW₁, X', ⟨g', mk, t, L, e1, e2, hq, h1, hL, h2, h3⟩, st⟩ | ⟨q, vm₁, ⟨U', l2, c2, s2⟩, hW₁, X', ⟨g', mk, t, L, E, ce, e1, e2, hq, hce, hcv, hcl, h1, hL, h2, h3⟩, st⟩
  · dsimp only [Pt.U, Pt.locs, Pt.cells, Pt.slots] at X' e1 e2 h1 h2 h3 st
    subst h1; subst h2; subst h3
    exact Or.inl ⟨v, (T.setVm vm₁).calling g' mk (Value.ref b :: As).toArray, t, U', L, hT, X', hL, e1, e2, hq, st⟩
  · dsimp only [Pt.U, Pt.locs, Pt.cells, Pt.slots] at X' e1 e2 h1 h2 h3 st hcl
    subst h1; subst h2; subst h3
    exact Or.inr ⟨q, (T.setVm vm₁).calling g' mk (Value.ref b :: As).toArray, t, U', L, E, ce, hT, X', hL, e1, e2, hq, hce, hcv, vx_cls hW₁ hcl, st⟩
theorem vx_runS (S : CallFix p m c cc nL s args Ts own) (hM : vx_Met l y ws rm Pc Qc XC mc ms free) (cw : CallB R s args own index y bytes maxL ret ws rm mc ms n ∧ (Cond.static y).before args s = true) (hp : PreS s H Pc As)
    (hg : g.method = m) (hn : As.length = n) (hsize : g.locals.size = nL) (hstack : g.stack = As.reverse ++ rest) (hW : 2 * g.monitorRoom + (rest.map fun v => v.category).sum ≤ 8) (hdg : decode cc g.pc = .ok (.invokestatic index, 3)) (hf : cells + mc ≤ R.cells ∧ slots + ms ≤ R.slots) :
    vx_Run p l e R s m args below meth c H locs cells slots mc ms g rest (Qc As.toArray) XC free := by
  have hK : vx_Back l R p e below s args y 3 8 (PreOf R mc ms Pc) (PostOf Qc mc ms free) (vx_Post XC mc ms free) := vx_callBack cw.1 hM hp.1
  obtain ⟨⟨-, -, -, -, -, -, hcode, hini, hy, hlen, hl⟩, hstt⟩ := cw
  obtain ⟨hx, hb, hml, ho, -⟩ := S
  intro T hT X
  rcases vx_callS X hx (bytes := bytes) (maxL := maxL) (ret := ret) ho hl hstt hini hcode hy hK hg (hsize.trans hml.symm) (argsL := As) (rest := rest) (fun sig h => hn.trans (hlen sig h)) hstack hW (by rw [hb]; exact hdg)
    (fun vm₁ hW₁ => ⟨hf.1, hf.2, hp.2 (T.setVm vm₁) hT hW₁⟩) with ⟨v, vm₁, ⟨U', l2, c2, s2⟩, hW₁, X', ⟨g', mk, t, L, e1, e2, hq, h1, hL, h2, h3⟩, st⟩ | ⟨q, vm₁, ⟨U', l2, c2, s2⟩, hW₁, X', ⟨g', mk, t, L, E, ce, e1, e2, hq, hce, hcv, hcl, h1, hL, h2, h3⟩, st⟩
  · dsimp only [Pt.U, Pt.locs, Pt.cells, Pt.slots] at X' e1 e2 h1 h2 h3 st
    subst h1; subst h2; subst h3
    exact Or.inl ⟨v, (T.setVm vm₁).calling g' mk As.toArray, t, U', L, hT, X', hL, e1, e2, hq, st⟩
  · dsimp only [Pt.U, Pt.locs, Pt.cells, Pt.slots] at X' e1 e2 h1 h2 h3 st hcl
    subst h1; subst h2; subst h3
    exact Or.inr ⟨q, (T.setVm vm₁).calling g' mk As.toArray, t, U', L, E, ce, hT, X', hL, e1, e2, hq, hce, hcv, vx_cls hW₁ hcl, st⟩
end Runs
section Rows
variable {p : Program} {l : Launch} {e : Env} {R : Room} {s : State} {m : MethodId} {args : Array Value} {below : List Frame} {meth : Method} {c : Code} {H : Heap} {locs : List Loc} {cells slots : Nat} {Q : State → Prop}
variable {mc ms : Nat} {free : Addr → Prop} {A0 A1 : Nat → Prop} {H0 : Heap} {a : Array Value} {pc : Nat} {ls : Array Slot} {st0 rest : List Value}
theorem vx_keep {st₀ t T' : State} {L : List Loc} (h0 : st₀.heap = H) (e1 : T'.heap = t.heap) (hS : va_S A0 H0 H locs) (hA : ∀ q, q < H.size → A1 q → A0 q) (hf : ∀ q, free q → A0 q) (hL : ∀ q ∈ L, free q.base) (hF : va_F A1 st₀ t) :
    H.size ≤ T'.heap.size ∧ (∀ q : Nat, q < H.size → ¬ A1 q → T'.heap[q]? = H[q]?) ∧ va_S A0 H0 T'.heap (locs ++ L) := by
  obtain ⟨hz, hk⟩ := hF
  rw [h0] at hz hk
  exact ⟨by rw [e1]; exact hz, fun q h1 h2 => by rw [e1]; exact hk q h1 h2,
    ⟨Nat.le_trans hS.1 (by rw [e1]; exact hz), fun q h1 h2 => by rw [e1, hk q (Nat.lt_of_lt_of_le h1 hS.1) (fun z => h2 (hA q (Nat.lt_of_lt_of_le h1 hS.1) z))]; exact hS.2.1 q h1 h2, fun q hq => by
      rcases List.mem_append.mp hq with h | h
      · exact hS.2.2 q h
      · exact hf _ (hL q h)⟩⟩
theorem vx_calli {S SX : Type} {post : Int32 → S → Prop} {px : SX → Prop} {B : S → State → Prop} {BX : String → SX → State → Prop} {AX : Nat → Prop} (hr : vx_Run p l e R s m args below meth c H locs cells slots mc ms (F0 m pc ls st0) rest (va_Qi post B A1 a) (vx_X px BX AX) free) (hS : va_S A0 H0 H locs) (hA : ∀ q, q < H.size → A1 q → A0 q) (hf : ∀ q, free q → A0 q) (hAX : ∀ q, q < H.size → AX q → A0 q)
    (kx : ∀ (E : String) (ce : Cell) (q9 : Addr) (u : SX) (t : State) (H1 : Heap) (locs1 : List Loc), t.heap = H1 → s.vm.Alike t.vm → px u → BX E u t → H.size ≤ H1.size → (∀ q : Nat, q < H.size → ¬ AX q → H1[q]? = H[q]?) → va_S A0 H0 H1 locs1 → H1[q9]? = some ce → ce.vm = .none → s.vm.findClass E = some ce.cls → vx_W p l e R s m args below meth c H1 locs1 (cells + mc) (slots + ms) Q (F0 m pc ls rest) q9)
    (kk : ∀ (r : Int32) (u : S) (t : State) (H1 : Heap) (locs1 : List Loc), t.heap = H1 → s.vm.Alike t.vm → post r u → B u t → H.size ≤ H1.size → (∀ q : Nat, q < H.size → ¬ A1 q → H1[q]? = H[q]?) → va_S A0 H0 H1 locs1 → W p l e R s m args below meth c H1 locs1 (cells + mc) (slots + ms) Q (F0 m (pc + 3) ls (.int r :: rest))) : W p l e R s m args below meth c H locs cells slots Q (F0 m pc ls st0) := by
  intro T hT X
  rcases hr T hT X with ⟨v, st₀, t, T', L, h0, X', hL, e1, e2, ⟨⟨r, u, hv, hp, hb⟩, hF⟩, st⟩ | ⟨q, st₀, t, T', L, E, ce, h0, X', hL, e1, e2, ⟨u, hp, hb, hF⟩, hce, hcv, hcl, st⟩
  · cases hv
    obtain ⟨k1, k2, k3⟩ := vx_keep h0 e1 hS hA hf hL hF
    obtain ⟨t2, a1, b1⟩ := kk r u t T'.heap (locs ++ L) e1.symm (by rw [← e2]; exact X'.warmed.alike) hp hb k1 k2 k3 T' rfl X'
    exact ⟨t2, st t2 a1, b1⟩
  · obtain ⟨k1, k2, k3⟩ := vx_keep h0 e1 hS hAX hf hL hF
    obtain ⟨t2, a1, b1⟩ := kx E ce q u t T'.heap (locs ++ L) e1.symm (by rw [← e2]; exact X'.warmed.alike) hp hb k1 k2 k3 (by rw [e1]; exact hce) hcv hcl T' rfl X'
    exact ⟨t2, st.trans a1, b1⟩
theorem vx_calll {S SX : Type} {post : Int64 → S → Prop} {px : SX → Prop} {B : S → State → Prop} {BX : String → SX → State → Prop} {AX : Nat → Prop} (hr : vx_Run p l e R s m args below meth c H locs cells slots mc ms (F0 m pc ls st0) rest (va_Ql post B A1 a) (vx_X px BX AX) free) (hS : va_S A0 H0 H locs) (hA : ∀ q, q < H.size → A1 q → A0 q) (hf : ∀ q, free q → A0 q) (hAX : ∀ q, q < H.size → AX q → A0 q)
    (kx : ∀ (E : String) (ce : Cell) (q9 : Addr) (u : SX) (t : State) (H1 : Heap) (locs1 : List Loc), t.heap = H1 → s.vm.Alike t.vm → px u → BX E u t → H.size ≤ H1.size → (∀ q : Nat, q < H.size → ¬ AX q → H1[q]? = H[q]?) → va_S A0 H0 H1 locs1 → H1[q9]? = some ce → ce.vm = .none → s.vm.findClass E = some ce.cls → vx_W p l e R s m args below meth c H1 locs1 (cells + mc) (slots + ms) Q (F0 m pc ls rest) q9)
    (kk : ∀ (r : Int64) (u : S) (t : State) (H1 : Heap) (locs1 : List Loc), t.heap = H1 → s.vm.Alike t.vm → post r u → B u t → H.size ≤ H1.size → (∀ q : Nat, q < H.size → ¬ A1 q → H1[q]? = H[q]?) → va_S A0 H0 H1 locs1 → W p l e R s m args below meth c H1 locs1 (cells + mc) (slots + ms) Q (F0 m (pc + 3) ls (.long r :: rest))) : W p l e R s m args below meth c H locs cells slots Q (F0 m pc ls st0) := by
  intro T hT X
  rcases hr T hT X with ⟨v, st₀, t, T', L, h0, X', hL, e1, e2, ⟨⟨r, u, hv, hp, hb⟩, hF⟩, st⟩ | ⟨q, st₀, t, T', L, E, ce, h0, X', hL, e1, e2, ⟨u, hp, hb, hF⟩, hce, hcv, hcl, st⟩
  · cases hv
    obtain ⟨k1, k2, k3⟩ := vx_keep h0 e1 hS hA hf hL hF
    obtain ⟨t2, a1, b1⟩ := kk r u t T'.heap (locs ++ L) e1.symm (by rw [← e2]; exact X'.warmed.alike) hp hb k1 k2 k3 T' rfl X'
    exact ⟨t2, st t2 a1, b1⟩
  · obtain ⟨k1, k2, k3⟩ := vx_keep h0 e1 hS hAX hf hL hF
    obtain ⟨t2, a1, b1⟩ := kx E ce q u t T'.heap (locs ++ L) e1.symm (by rw [← e2]; exact X'.warmed.alike) hp hb k1 k2 k3 (by rw [e1]; exact hce) hcv hcl T' rfl X'
    exact ⟨t2, st.trans a1, b1⟩
theorem vx_callf {S SX : Type} {post : UInt32 → S → Prop} {px : SX → Prop} {B : S → State → Prop} {BX : String → SX → State → Prop} {AX : Nat → Prop} (hr : vx_Run p l e R s m args below meth c H locs cells slots mc ms (F0 m pc ls st0) rest (va_Qf post B A1 a) (vx_X px BX AX) free) (hS : va_S A0 H0 H locs) (hA : ∀ q, q < H.size → A1 q → A0 q) (hf : ∀ q, free q → A0 q) (hAX : ∀ q, q < H.size → AX q → A0 q)
    (kx : ∀ (E : String) (ce : Cell) (q9 : Addr) (u : SX) (t : State) (H1 : Heap) (locs1 : List Loc), t.heap = H1 → s.vm.Alike t.vm → px u → BX E u t → H.size ≤ H1.size → (∀ q : Nat, q < H.size → ¬ AX q → H1[q]? = H[q]?) → va_S A0 H0 H1 locs1 → H1[q9]? = some ce → ce.vm = .none → s.vm.findClass E = some ce.cls → vx_W p l e R s m args below meth c H1 locs1 (cells + mc) (slots + ms) Q (F0 m pc ls rest) q9)
    (kk : ∀ (r : UInt32) (u : S) (t : State) (H1 : Heap) (locs1 : List Loc), t.heap = H1 → s.vm.Alike t.vm → post r u → B u t → H.size ≤ H1.size → (∀ q : Nat, q < H.size → ¬ A1 q → H1[q]? = H[q]?) → va_S A0 H0 H1 locs1 → W p l e R s m args below meth c H1 locs1 (cells + mc) (slots + ms) Q (F0 m (pc + 3) ls (.float r :: rest))) : W p l e R s m args below meth c H locs cells slots Q (F0 m pc ls st0) := by
  intro T hT X
  rcases hr T hT X with ⟨v, st₀, t, T', L, h0, X', hL, e1, e2, ⟨⟨r, u, hv, hp, hb⟩, hF⟩, st⟩ | ⟨q, st₀, t, T', L, E, ce, h0, X', hL, e1, e2, ⟨u, hp, hb, hF⟩, hce, hcv, hcl, st⟩
  · cases hv
    obtain ⟨k1, k2, k3⟩ := vx_keep h0 e1 hS hA hf hL hF
    obtain ⟨t2, a1, b1⟩ := kk r u t T'.heap (locs ++ L) e1.symm (by rw [← e2]; exact X'.warmed.alike) hp hb k1 k2 k3 T' rfl X'
    exact ⟨t2, st t2 a1, b1⟩
  · obtain ⟨k1, k2, k3⟩ := vx_keep h0 e1 hS hAX hf hL hF
    obtain ⟨t2, a1, b1⟩ := kx E ce q u t T'.heap (locs ++ L) e1.symm (by rw [← e2]; exact X'.warmed.alike) hp hb k1 k2 k3 (by rw [e1]; exact hce) hcv hcl T' rfl X'
    exact ⟨t2, st.trans a1, b1⟩
theorem vx_calld {S SX : Type} {post : UInt64 → S → Prop} {px : SX → Prop} {B : S → State → Prop} {BX : String → SX → State → Prop} {AX : Nat → Prop} (hr : vx_Run p l e R s m args below meth c H locs cells slots mc ms (F0 m pc ls st0) rest (va_Qd post B A1 a) (vx_X px BX AX) free) (hS : va_S A0 H0 H locs) (hA : ∀ q, q < H.size → A1 q → A0 q) (hf : ∀ q, free q → A0 q) (hAX : ∀ q, q < H.size → AX q → A0 q)
    (kx : ∀ (E : String) (ce : Cell) (q9 : Addr) (u : SX) (t : State) (H1 : Heap) (locs1 : List Loc), t.heap = H1 → s.vm.Alike t.vm → px u → BX E u t → H.size ≤ H1.size → (∀ q : Nat, q < H.size → ¬ AX q → H1[q]? = H[q]?) → va_S A0 H0 H1 locs1 → H1[q9]? = some ce → ce.vm = .none → s.vm.findClass E = some ce.cls → vx_W p l e R s m args below meth c H1 locs1 (cells + mc) (slots + ms) Q (F0 m pc ls rest) q9)
    (kk : ∀ (r : UInt64) (u : S) (t : State) (H1 : Heap) (locs1 : List Loc), t.heap = H1 → s.vm.Alike t.vm → post r u → B u t → H.size ≤ H1.size → (∀ q : Nat, q < H.size → ¬ A1 q → H1[q]? = H[q]?) → va_S A0 H0 H1 locs1 → W p l e R s m args below meth c H1 locs1 (cells + mc) (slots + ms) Q (F0 m (pc + 3) ls (.double r :: rest))) : W p l e R s m args below meth c H locs cells slots Q (F0 m pc ls st0) := by
  intro T hT X
  rcases hr T hT X with ⟨v, st₀, t, T', L, h0, X', hL, e1, e2, ⟨⟨r, u, hv, hp, hb⟩, hF⟩, st⟩ | ⟨q, st₀, t, T', L, E, ce, h0, X', hL, e1, e2, ⟨u, hp, hb, hF⟩, hce, hcv, hcl, st⟩
  · cases hv
    obtain ⟨k1, k2, k3⟩ := vx_keep h0 e1 hS hA hf hL hF
    obtain ⟨t2, a1, b1⟩ := kk r u t T'.heap (locs ++ L) e1.symm (by rw [← e2]; exact X'.warmed.alike) hp hb k1 k2 k3 T' rfl X'
    exact ⟨t2, st t2 a1, b1⟩
  · obtain ⟨k1, k2, k3⟩ := vx_keep h0 e1 hS hAX hf hL hF
    obtain ⟨t2, a1, b1⟩ := kx E ce q u t T'.heap (locs ++ L) e1.symm (by rw [← e2]; exact X'.warmed.alike) hp hb k1 k2 k3 (by rw [e1]; exact hce) hcv hcl T' rfl X'
    exact ⟨t2, st.trans a1, b1⟩
theorem vx_callv {S SX : Type} {post : S → Prop} {px : SX → Prop} {B : S → State → Prop} {BX : String → SX → State → Prop} {AX : Nat → Prop} (hr : vx_Run p l e R s m args below meth c H locs cells slots mc ms (F0 m pc ls st0) rest (va_Qv post B A1 a) (vx_X px BX AX) free) (hS : va_S A0 H0 H locs) (hA : ∀ q, q < H.size → A1 q → A0 q) (hf : ∀ q, free q → A0 q) (hAX : ∀ q, q < H.size → AX q → A0 q)
    (kx : ∀ (E : String) (ce : Cell) (q9 : Addr) (u : SX) (t : State) (H1 : Heap) (locs1 : List Loc), t.heap = H1 → s.vm.Alike t.vm → px u → BX E u t → H.size ≤ H1.size → (∀ q : Nat, q < H.size → ¬ AX q → H1[q]? = H[q]?) → va_S A0 H0 H1 locs1 → H1[q9]? = some ce → ce.vm = .none → s.vm.findClass E = some ce.cls → vx_W p l e R s m args below meth c H1 locs1 (cells + mc) (slots + ms) Q (F0 m pc ls rest) q9)
    (kk : ∀ (u : S) (t : State) (H1 : Heap) (locs1 : List Loc), t.heap = H1 → s.vm.Alike t.vm → post u → B u t → H.size ≤ H1.size → (∀ q : Nat, q < H.size → ¬ A1 q → H1[q]? = H[q]?) → va_S A0 H0 H1 locs1 → W p l e R s m args below meth c H1 locs1 (cells + mc) (slots + ms) Q (F0 m (pc + 3) ls (rest))) : W p l e R s m args below meth c H locs cells slots Q (F0 m pc ls st0) := by
  intro T hT X
  rcases hr T hT X with ⟨v, st₀, t, T', L, h0, X', hL, e1, e2, ⟨⟨u, hv, hp, hb⟩, hF⟩, st⟩ | ⟨q, st₀, t, T', L, E, ce, h0, X', hL, e1, e2, ⟨u, hp, hb, hF⟩, hce, hcv, hcl, st⟩
  · cases hv
    obtain ⟨k1, k2, k3⟩ := vx_keep h0 e1 hS hA hf hL hF
    obtain ⟨t2, a1, b1⟩ := kk u t T'.heap (locs ++ L) e1.symm (by rw [← e2]; exact X'.warmed.alike) hp hb k1 k2 k3 T' rfl X'
    exact ⟨t2, st t2 a1, b1⟩
  · obtain ⟨k1, k2, k3⟩ := vx_keep h0 e1 hS hAX hf hL hF
    obtain ⟨t2, a1, b1⟩ := kx E ce q u t T'.heap (locs ++ L) e1.symm (by rw [← e2]; exact X'.warmed.alike) hp hb k1 k2 k3 (by rw [e1]; exact hce) hcv hcl T' rfl X'
    exact ⟨t2, st.trans a1, b1⟩
/-- caught by the row x of this method's table; the rows ahead don't take it -/
theorem vx_catch {own name : String} {E : String} {ce : Cell} {q : Addr} (hown : s.vm.findClass own = some m.cls) (pre : List ExceptionTableEntry) (x : ExceptionTableEntry) (suf : List ExceptionTableEntry) (hsplit : c.exceptionTable.toList = pre ++ x :: suf)
    (hpass : ∀ z ∈ pre, covers z pc = false ∨ (z.catchType ≠ 0 ∧ ∃ nm : String, (Cond.classLink own z.catchType nm).before args s = true ∧ va_Nc E nm s)) (hx : covers x pc = true) (h0 : x.catchType ≠ 0)
    (hlink : (Cond.classLink own x.catchType name).before args s = true) (hcast : (Cond.castable E name).before args s = true) (hcell : H[q]? = some ce) (hv : ce.vm = .none) (hcl : s.vm.findClass E = some ce.cls)
    (kk : W p l e R s m args below meth c H locs cells slots Q (F0 m x.handlerPc ls [.ref q])) : vx_W p l e R s m args below meth c H locs cells slots Q (F0 m pc ls rest) q := by
  intro T hT X
  have hpl : e.platform.magicAccessors = ({} : Platform).magicAccessors := by rw [X.admits.platform]
  obtain ⟨c3, c4, hc3, hc4, hasg⟩ := Cond.castable_spec hcast
  cases Option.some.inj (hc3.symm.trans hcl)
  obtain ⟨c5, hc5, hcl5⟩ := Cond.classLink_spec hown hlink e.platform hpl
  cases Option.some.inj (hc4.symm.trans hc5)
  obtain ⟨vm', X', st⟩ := X.thenCaughtThrough q (g := F0 m pc ls rest) rfl (Steps.refl _) (by rw [hT]; exact hcell) (by rw [hv]; rfl) (by obtain ⟨k9, h9, -⟩ := Vm.findClass_spec hcl; exact ⟨k9, h9⟩) pre x suf hsplit
    (fun z hz => by
      rcases hpass z hz with h | ⟨hz0, nm, hl1, hn1⟩
      · exact Or.inl h
      · obtain ⟨c6, hc6, hcl6⟩ := Cond.classLink_spec hown hl1 e.platform hpl
        obtain ⟨a8, b8, h1, h2, h3⟩ := hn1
        cases Option.some.inj (h1.symm.trans hcl)
        cases Option.some.inj (h2.symm.trans hc6)
        exact Or.inr ⟨hz0, _, hcl6, h3⟩) hx (Or.inr ⟨h0, c4, hcl5, hasg⟩)
  obtain ⟨t, a1, b1⟩ := kk (T.setVm vm') hT X'
  exact ⟨t, st.trans a1, b1⟩
end Rows
section Ends
variable {p : Program} {l : Launch} {e : Env} {R : Room} {s : State} {m : MethodId} {args : Array Value} {below : List Frame} {meth : Method} {c : Code} {H : Heap} {locs : List Loc} {cells slots : Nat} {Q : State → Prop}
variable {mc ms : Nat} {free : Addr → Prop} {A0 A1 : Nat → Prop} {H0 : Heap} {a : Array Value} {ls : Array Slot} {st0 rest : List Value}
variable {Qc : Array Value → State → Outcome → State → Prop} {XC : String → State → State → Prop}
/-- what a body that may throw owes at its end -/
def vx_MQ (below : List Frame) (Qc : Array Value → State → Outcome → State → Prop) (XC : String → State → State → Prop) (a : Array Value) (s : State) (mc ms : Nat) (free : Addr → Prop) : State → Prop := fun t =>
  ∃ o, t.status = .running ∧ Ended t below o ∧ vx_Q Qc XC mc ms free a s o t
theorem vx_ret {g : JFrame} {mc ms : Nat} (k : W p l e R s m args below meth c H locs cells slots (MQ below Qc args s mc ms free) g) : W p l e R s m args below meth c H locs cells slots (vx_MQ below Qc XC args s mc ms free) g := by
  intro T hT X
  obtain ⟨t, a1, o, b1, b2, b3, b4⟩ := k T hT X
  exact ⟨t, a1, o, b1, b2, Or.inl ⟨b3, b4⟩⟩
/-- not caught here: it goes on to the caller -/
theorem vx_widen {g : JFrame} {q : Addr} {k n : Nat} (h1 : cells ≤ k) (h2 : slots ≤ n) (kk : vx_W p l e R s m args below meth c H locs k n Q g q) : vx_W p l e R s m args below meth c H locs cells slots Q g q := fun T hT X => kk T hT (stand_widen X h1 h2)
theorem vx_out {pc : Nat} {E : String} {ce : Cell} {q : Addr} {mc ms : Nat} (hout : ∀ x ∈ c.exceptionTable.toList, covers x pc = false) (hlocks : meth.locks = false) (hcell : H[q]? = some ce) (hv : ce.vm = .none) (hcl : s.vm.findClass E = some ce.cls)
    (hx : ∀ t : State, t.heap = H → s.vm.Alike t.vm → XC E s t) (hf : ∀ z ∈ locs, free z.base) (hc : cells ≤ mc) (hs : slots ≤ ms) :
    vx_W p l e R s m args below meth c H locs cells slots (vx_MQ below Qc XC args s mc ms free) (F0 m pc ls rest) q := by
  intro T hT X
  obtain ⟨st1, hrun, hend, hW, hsm⟩ := X.leaveThrown q (g := F0 m pc ls rest) rfl rfl rfl hout hlocks
  have hcell9 : (T.setFrames (.throwing q :: below)).heap[q]? = some ce := by
    show T.heap[q]? = some ce
    rw [hT]; exact hcell
  exact ⟨_, st1, .threw q, hrun, hend, Or.inr ⟨q, rfl, E, ce, locs, hx _ hT hW.alike, hcell9, hv, hcl, hW, hsm.mono hc hs, hf⟩⟩
theorem vx_frame {U : State} {k n : Nat} (h : s.sameButNew ({ U with vm := s.vm } : State) locs k n) : s.heap.size ≤ U.heap.size ∧ ∀ q : Nat, q < s.heap.size → (∀ z ∈ locs, z.base ≠ q) → U.heap[q]? = s.heap[q]? := by
  obtain ⟨-, h2, -, -, -, h6⟩ := h
  refine ⟨h2, fun q hq hz => ?_⟩
  obtain ⟨c9, e1, e2, e3, e4⟩ := h6 q _ (Array.getElem?_eq_getElem hq)
  have hs : c9.slots = (s.heap[q]).slots := Array.ext_getElem? fun i => e4 i fun hm => hz _ hm rfl
  have h9 : c9 = s.heap[q] := by
    rw [hs] at e2
    exact e2
  have e5 : U.heap[q]? = some c9 := e1
  rw [e5, h9, Array.getElem?_eq_getElem hq]
/-- the words of a throw but the four that speak of the heap -/
def vx_no (w : Cond) : Bool := decide (w ≠ .isRef (.static Bundle.tN "UNASSIGNED_STACK" Bundle.steD)) && decide (w ≠ .isRef (.static Bundle.tN "SUPPRESSED_SENTINEL" Bundle.listD)) && decide (w ≠ .laysStatic Bundle.tN "UNASSIGNED_STACK" Bundle.steD) && decide (w ≠ .laysStatic Bundle.tN "SUPPRESSED_SENTINEL" Bundle.listD)
def vx_at0 (own : String) (ic : Nat) (X : String) (names : List String) : List Cond := (Bundle.ownAtoms0 own ic X names).filter vx_no
def vx_atS (own : String) (ic : Nat) (X : String) (names : List String) : List Cond := (Bundle.ownAtoms own ic X names).filter vx_no
/-- a word that the tables alone decide, or a good one -/
def vx_ot (w : Cond) : Bool := w.onTables || goodWord w
theorem vx_ot_at {args a' : Array Value} {s U : State} {w : Cond} (hW : s.WarmedH U.vm) (hvm : s.vm = U.vm) (hg : vx_ot w = true) (h : w.before args s = true) : w.before a' U = true := by
  simp only [vx_ot, Bool.or_eq_true] at hg
  rcases hg with hg | hg
  · exact va_tabs hg hvm h
  · exact word_at hW (good_of_word hg) h
/-- a list's words: the good ones out of the method's own list, the others by premises of their own -/
theorem vx_hat {args : Array Value} {s : State} {L B : List Cond} (h1 : ∀ w ∈ L.filter goodWord, w.before args s = true) (h2 : ∀ w ∈ L.filter (fun w => !goodWord w), w ∈ B) (h3 : ∀ w ∈ B, w.before args s = true) : ∀ w ∈ L, w.before args s = true := by
  intro w hw
  by_cases g : goodWord w = true
  · exact h1 w (List.mem_filter.mpr ⟨hw, g⟩)
  · refine h3 w (h2 w (List.mem_filter.mpr ⟨hw, ?_⟩))
    show (!goodWord w) = true
    cases hgw : goodWord w
    · rfl
    · exact absurd hgw g
theorem vx_c {args : Array Value} {s : State} {w : Cond} {B : List Cond} (h : w.before args s = true) (t : ∀ w ∈ B, w.before args s = true) : ∀ w' ∈ w :: B, w'.before args s = true := fun w' h' => (List.mem_cons.mp h').elim (fun e => by rw [e]; exact h) (t w')
theorem vx_n {args : Array Value} {s : State} : ∀ w ∈ ([] : List Cond), w.before args s = true := fun _ h => nomatch h
theorem vx_own {args : Array Value} {s : State} {L : List Cond} (h1 : ∀ w ∈ L.filter vx_no, w.before args s = true)
    (hU : (Cond.isRef (.static Bundle.tN "UNASSIGNED_STACK" Bundle.steD)).before args s = true) (hN : (Cond.isRef (.static Bundle.tN "SUPPRESSED_SENTINEL" Bundle.listD)).before args s = true)
    (lU : (Cond.laysStatic Bundle.tN "UNASSIGNED_STACK" Bundle.steD).before args s = true) (lN : (Cond.laysStatic Bundle.tN "SUPPRESSED_SENTINEL" Bundle.listD).before args s = true) : ∀ w ∈ L, w.before args s = true := by
  intro w hw
  by_cases e1 : w = .isRef (.static Bundle.tN "UNASSIGNED_STACK" Bundle.steD)
  · rw [e1]; exact hU
  · by_cases e2 : w = .isRef (.static Bundle.tN "SUPPRESSED_SENTINEL" Bundle.listD)
    · rw [e2]; exact hN
    · by_cases e3 : w = .laysStatic Bundle.tN "UNASSIGNED_STACK" Bundle.steD
      · rw [e3]; exact lU
      · by_cases e4 : w = .laysStatic Bundle.tN "SUPPRESSED_SENTINEL" Bundle.listD
        · rw [e4]; exact lN
        · exact h1 w (List.mem_filter.mpr ⟨hw, by unfold vx_no; rw [decide_eq_true e1, decide_eq_true e2, decide_eq_true e3, decide_eq_true e4]; rfl⟩)
/-- where a static field lies, its class's statics cell in H -/
def vx_L (C n d : String) (A : Nat → Prop) (U : State) (H : Heap) : Prop := ∃ (c : ClassId) (k : Class) (i : Nat) (f : Field) (a : Nat) (cell : Cell), U.vm.findClass C = some c ∧ U.fieldFound? C n d = some (c, k, i, f) ∧ f.isStatic = true ∧ k.statics = some a ∧ H[a]? = some cell ∧ cell.vm.isStatics = true ∧ cell.cls = c ∧ f.slot < cell.slots.size ∧ k.staticTypes[f.slot]? = some f.type ∧ ¬ A a
theorem vx_L.moved {C n d : String} {A : Nat → Prop} {u U : State} {H : Heap} (hvm : u.vm.Alike U.vm) (h : vx_L C n d A u H) : vx_L C n d A U H := by
  obtain ⟨c, k, i, f, a, cell, h1, h2, h3, h4, h5, h6, h7, h8, h9, h10⟩ := h
  obtain ⟨k', hi', he⟩ := State.fieldFound?_setVm hvm h2
  exact ⟨c, k', i, f, a, cell, by rw [hvm.findClass]; exact h1, hi', h3, by rw [he]; exact h4, h5, h6, h7, h8, by rw [he]; exact h9, h10⟩
theorem vx_L.kept {C n d : String} {A : Nat → Prop} {U : State} {H H1 : Heap} (h : vx_L C n d A U H) (hq : ∀ a : Nat, a < H.size → ¬ A a → H1[a]? = H[a]?) : vx_L C n d A U H1 := by
  obtain ⟨c, k, i, f, a, cell, h1, h2, h3, h4, h5, h6, h7, h8, h9, h10⟩ := h
  exact ⟨c, k, i, f, a, cell, h1, h2, h3, h4, by rw [hq a (Array.getElem?_eq_some_iff.mp h5).1 h10]; exact h5, h6, h7, h8, h9, h10⟩
theorem vx_L.narrow {C n d : String} {A B : Nat → Prop} {U : State} {H : Heap} (h : vx_L C n d A U H) (hAB : ∀ q, B q → A q) : vx_L C n d B U H := by
  obtain ⟨c, k, i, f, a, cell, h1, h2, h3, h4, h5, h6, h7, h8, h9, h10⟩ := h
  exact ⟨c, k, i, f, a, cell, h1, h2, h3, h4, h5, h6, h7, h8, h9, fun z => h10 (hAB _ z)⟩
theorem vx_L.word {C n d : String} {A : Nat → Prop} {s : State} {args : Array Value} (h : vx_L C n d A s s.heap) : (Cond.laysStatic C n d).before args s = true := by
  obtain ⟨c, k, i, f, a, cell, h1, h2, h3, h4, h5, h6, h7, h8, h9, -⟩ := h
  show (Cond.laysStatic C n d).holds args s none s [] = true
  exact Cond.laysStatic_of h1 h2 h3 h4 h5 h6 h7 h8 h9
/-- .. and what it holds: null or some reference -/
def vx_Zq (C n d : String) (A : Nat → Prop) (U : State) (H : Heap) : Prop := va_Zq C n d A U H ∧ vx_L C n d A U H
theorem vx_Zq.moved {C n d : String} {A : Nat → Prop} {u U : State} {H : Heap} (hvm : u.vm.Alike U.vm) (h : vx_Zq C n d A u H) : vx_Zq C n d A U H := ⟨va_Zq.moved hvm h.1, vx_L.moved hvm h.2⟩
theorem vx_Zq.kept {C n d : String} {A : Nat → Prop} {U : State} {H H1 : Heap} (h : vx_Zq C n d A U H) (hq : ∀ a : Nat, a < H.size → ¬ A a → H1[a]? = H[a]?) : vx_Zq C n d A U H1 := ⟨va_Zq.kept h.1 hq, vx_L.kept h.2 hq⟩
theorem vx_Zq.narrow {C n d : String} {A B : Nat → Prop} {U : State} {H : Heap} (h : vx_Zq C n d A U H) (hAB : ∀ q, B q → A q) : vx_Zq C n d B U H := ⟨va_Zq.narrow h.1 hAB, vx_L.narrow h.2 hAB⟩
theorem vx_Zqof {args : Array Value} {s : State} {C n d : String} {A : Nat → Prop} (hl : (Cond.laysStatic C n d).before args s = true) (hini : (Cond.initialized C).before args s = true) (h : (Cond.isRef (.static C n d)).before args s = true) (hA : ∀ a : Nat, a < s.heap.size → ¬ A a) : vx_Zq C n d A s s.heap := by
  refine ⟨va_Zqof hl hini h hA, ?_⟩
  obtain ⟨c, k, i, f, a, cell, h1, h2, h3, h4, h5, h6, h7, h8, h9⟩ := Cond.laysStatic_spec hl
  exact ⟨c, k, i, f, a, cell, h1, h2, h3, h4, h5, h6, h7, h8, h9, hA a (Array.getElem?_eq_some_iff.mp h5).1⟩
theorem vx_isRef {C n d : String} {v : Value} {A : Nat → Prop} {s : State} {args : Array Value} (h : va_Z C n d v A s s.heap) (hv : v.isRef = true) : (Cond.isRef (.static C n d)).before args s = true := by
  obtain ⟨cf, kf, fi, f, a, cell, h1, h2, h3, h4, h5, h6, h7, -⟩ := h
  have he : (Term.static C n d).eval args s none [] s = some v := by
    simp [Term.eval, State.fieldNamed?, h1, h2, h4, h5, h6, h7]
  simp only [Cond.before, Cond.holds, Cond.value, he]
  cases v <;> simp_all [Value.isRef]
theorem vx_isRefq {C n d : String} {A : Nat → Prop} {s : State} {args : Array Value} (h : va_Zq C n d A s s.heap) : (Cond.isRef (.static C n d)).before args s = true := by
  rcases h with h | ⟨t, h⟩
  · exact vx_isRef h rfl
  · exact vx_isRef h rfl
/-- the same frame, seen from here: as if the method were called anew in this heap -/
theorem vx_rebase {T : State} (X : Stand p l e R s m args below meth c T locs cells slots) {R' : Room} (hf : R'.frames ≤ R.frames) (hl : R'.locals ≤ R.locals) (hc : cells + R'.cells ≤ R.cells) (hs : slots + R'.slots ≤ R.slots) :
    Stand p l e R' ((T.setVm s.vm).setFrames (.invoking m args :: below)) m args below meth c T [] 0 0 := by
  have htop : (T.setVm s.vm).topJava?.isSome := X.here.top
  have hF : ((T.setVm s.vm).setFrames (.invoking m args :: below)).frames = .invoking m args :: below := State.frames_setFrames _ (State.cur_lt_of_top htop)
  obtain ⟨g₀, hg0⟩ := Option.isSome_iff_exists.mp htop
  obtain ⟨r, hr⟩ := State.topJava?_eq_some.mp hg0
  have hl9 : e.platform.stackLimits (T.setVm s.vm).me = e.platform.stackLimits s.me := X.limits
  have hb9 : (T.setVm s.vm).me.stackBytes = s.me.stackBytes := X.bytes
  refine ⟨X.admits, X.cas, X.clock, hF, ?_, X.hears, X.method, X.code, X.here, X.tail, X.warmed, ?_, ?_, ?_⟩
  · have h := X.room
    have hU : ((T.setVm s.vm).setFrames (.invoking m args :: below)).localsInUse = s.localsInUse := by
      rw [State.localsInUse_invoking hF (meth := meth) (c := c) X.method X.code, State.localsInUse_invoking X.frames X.method X.code]
    simp only [State.hasRoom, Bool.and_eq_true, decide_eq_true_eq] at h ⊢
    obtain ⟨⟨⟨⟨h1, h2, h3, h4, h5, h6⟩, h7⟩, h8⟩, h9⟩ := h
    rw [X.frames, List.length_cons] at h2 h3
    have q1 := X.heapSize
    have q2 := X.used
    simp only [hF, hU, List.length_cons, State.stackLimits_setFrames, State.stackBytes_setFrames, hl9, hb9]
    refine ⟨⟨⟨⟨by omega, by omega, by omega, by omega, by omega, h6⟩, ?_⟩, ?_⟩, X.book⟩
    · show T.heap.size + R'.cells ≤ e.platform.maxCells
      omega
    · show T.slotsUsed + R'.slots ≤ e.platform.maxSlots
      omega
  · rw [State.stackLimits_setFrames]; rfl
  · rw [State.stackBytes_setFrames]; rfl
  · refine ⟨?_, Nat.le_refl _, Nat.le_refl _, ?_, ?_, fun a c9 h9 => ⟨c9, h9, rfl, rfl, fun _ _ => rfl⟩⟩
    · obtain ⟨t, ht, -⟩ := State.frames_cons hr
      show T.setVm s.vm = { ((T.setVm s.vm).setFrames (.invoking m args :: below)).setFrames (T.setVm s.vm).frames with heap := T.heap, slotsUsed := T.slotsUsed }
      rw [State.setFrames_setFrames, State.setFrames_self ht]
      rfl
    · show T.slotsUsed = T.slotsUsed + ((T.heap.toList.drop T.heap.size).map (·.slots.size)).sum
      rw [List.drop_eq_nil_of_le (Nat.le_of_eq Array.length_toList)]
      rfl
    · show ((T.heap.toList.drop T.heap.size).map (·.slots.size)).sum ≤ 0
      rw [List.drop_eq_nil_of_le (Nat.le_of_eq Array.length_toList)]
      exact Nat.le_refl _
/-- 'throw new E()': new; dup; invokespecial; athrow -/
theorem vx_throw0 {cc : ByteArray} {pc : Nat} (hexec : p.tables.exec = Jvm.exec) (hb : c.code = cc) (hl : l.stackTraces = false) {own cls : String} {names : List String} {ik ic mc ms : Nat} {A : Nat → Prop}
    (hown : s.vm.findClass own = some m.cls) (hcls : Bundle.fit cls = true) (hnames : ∀ n ∈ names, Bundle.fit n = true)
    (hk : (Cond.classLink own ik cls).before args s = true) (hini : (Cond.initialized cls).before args s = true) (hat : ∀ w ∈ vx_at0 own ic cls names, w.before args s = true)
    (hgood : ∀ w ∈ Cond.classLink own ik cls :: Cond.initialized cls :: vx_at0 own ic cls names, vx_ot w = true)
    (hU : vx_Zq Bundle.tN "UNASSIGNED_STACK" Bundle.steD A s s.heap) (hN : vx_Zq Bundle.tN "SUPPRESSED_SENTINEL" Bundle.listD A s s.heap) (hS : va_S A s.heap H locs) (hsize : ls.size = c.maxLocals)
    (d0 : decode cc pc = .ok (.new ik, 3)) (d3 : decode cc (pc + 3) = .ok (.dup, 1)) (d4 : decode cc (pc + 4) = .ok (.invokespecial ic, 3)) (d7 : decode cc (pc + 7) = .ok (.athrow, 1))
    (hout : ∀ x ∈ c.exceptionTable.toList, covers x (pc + 7) = false)
    (hRframes : names.length + 3 < R.frames) (hRlocals : (rest.map fun v => v.category).sum + (13 * (names.length + 1) + 42) ≤ R.locals) (hRcells : cells + 1 ≤ R.cells) (hRslots : slots + 6 ≤ R.slots) (hlocks : meth.locks = false)
    (hx : ∀ t : State, s.vm.Alike t.vm → H.size ≤ t.heap.size → (∀ q : Nat, q < H.size → t.heap[q]? = H[q]?) → XC cls s t)
    (hf : ∀ z ∈ locs, free z.base) (hc : cells + 1 ≤ mc) (hs : slots + 6 ≤ ms) :
    W p l e R s m args below meth c H locs cells slots (vx_MQ below Qc XC args s mc ms free) (F0 m pc ls rest) := by
  intro T hT X
  have htr : e.platform.stackTraces = false := (show e.platform.stackTraces = l.stackTraces by rw [X.admits.platform]).trans hl
  have Y := vx_rebase X (R' := { frames := R.frames, locals := R.locals, cells := 1, slots := 6 }) (Nat.le_refl _) (Nat.le_refl _) hRcells hRslots
  obtain ⟨s', hA⟩ : ∃ z, z = (T.setVm s.vm).setFrames (.invoking m args :: below) := ⟨_, rfl⟩
  rw [← hA] at Y
  have hvm : s'.vm = s.vm := by rw [hA]; rfl
  have hhp : s'.heap = H := by rw [hA]; exact hT
  have hW0 : s.WarmedH s'.vm := by rw [hvm]; exact State.WarmedH.refl s
  have hat' : ∀ w ∈ vx_at0 own ic cls names, w.before args s' = true := fun w hw => vx_ot_at hW0 hvm.symm (hgood w (List.mem_cons_of_mem _ (List.mem_cons_of_mem _ hw))) (hat w hw)
  have hk' : (Cond.classLink own ik cls).before args s' = true := vx_ot_at hW0 hvm.symm (hgood _ List.mem_cons_self) hk
  have hini' : (Cond.initialized cls).before args s' = true := vx_ot_at hW0 hvm.symm (hgood _ (List.mem_cons_of_mem _ List.mem_cons_self)) hini
  have hU' : vx_Zq Bundle.tN "UNASSIGNED_STACK" Bundle.steD A s' s'.heap := by rw [hhp]; exact vx_Zq.moved hW0.alike (hU.kept hS.2.1)
  have hN' : vx_Zq Bundle.tN "SUPPRESSED_SENTINEL" Bundle.listD A s' s'.heap := by rw [hhp]; exact vx_Zq.moved hW0.alike (hN.kept hS.2.1)
  have h : ∀ w ∈ Bundle.ownAtoms0 own ic cls names, w.before args s' = true := vx_own hat' (vx_isRefq hU'.1) (vx_isRefq hN'.1) hU'.2.word hN'.2.word
  have hown' : s'.vm.findClass own = some m.cls := by rw [hvm]; exact hown
  have hins : (Cond.instantiable cls 6).before args s' = true := h _ (by simp [Bundle.ownAtoms0])
  obtain ⟨vm₁, cX, kX, hfX, hkX, -, -, X₁, st1⟩ := Y.newCold hexec (own := own) (C := cls) (index := ik) (n := 6) hown' hk' hins hini'
    (g := F0 m pc ls rest) rfl (by rw [hb]; exact d0) (Nat.le_refl _) (Nat.le_refl _)
  generalize hT1 : (T.setVm vm₁).pushCell { cls := cX, slots := kX.instanceTypes.map defaultValue, vm := .none } = T1 at X₁ st1
  have hcat : (Value.ref T.heap.size).category = 1 := rfl
  have hcellA : T1.heap[T.heap.size]? = some (freshCell cX kX) := by rw [← hT1]; exact State.heap_pushCell_size _ _
  have d3' : decode c.code (pc + 3) = .ok (.dup, 1) := by rw [hb]; exact d3
  obtain ⟨U, hsteps, hrun, hend, hW, hsame, ce, hce, hO⟩ := X₁.ctorThrow0 hexec htr (own := own) (cls := cls) (names := names) (ic := ic) hown' hcls hnames h (fun x hx => nomatch hx) hfX hkX hcellA (by rw [hhp, hT]; exact Nat.le_refl _)
    (g := { method := m, pc := pc + 4, locals := ls, stack := .ref T.heap.size :: .ref T.heap.size :: rest, locked := none }) rfl hsize rfl rfl (rest := rest) rfl
    (by rw [hb]; exact d4) (by rw [hb]; exact d7) hout hRframes (by simp only [List.map_cons, List.sum_cons, hcat]; omega) hlocks
  obtain ⟨f1, f2⟩ := vx_frame hsame
  rw [hhp] at f1 f2
  have hWs : s.WarmedH U.vm := State.WarmedH.trans hW0 hW
  have hcl : s.vm.findClass cls = some ce.cls := by
    have h9 := hO.cls
    rw [hvm] at h9
    exact h9
  have hall : s.sameButNew ({ U with vm := s.vm } : State) locs mc ms := by
    subst hA
    obtain ⟨e1, e2⟩ := hsame
    rw [State.setFrames_setFrames] at e1
    have h2 : (T.setVm s.vm).sameButNew ({ U with vm := s.vm } : State) [] (0 + 1) (0 + 6) := ⟨e1, e2⟩
    have h3 := X.same.trans h2
    rw [List.append_nil] at h3
    exact h3.mono hc hs
  refine ⟨U, ?_, .threw T.heap.size, hrun, hend, Or.inr ⟨T.heap.size, rfl, cls, ce, locs, hx U hWs.alike f1 (fun q hq => f2 q hq (fun z hz => nomatch hz)), hce, hO.vm, hcl, hWs, hall, hf⟩⟩
  refine st1 _ ?_
  show Steps p.tables e below (T1.setTop { method := m, pc := pc + 3, locals := ls, stack := .ref T.heap.size :: rest, locked := none }) _
  jvm_step X₁.here [X₁.here.top, hexec, d3', Value.category]
  exact hsteps
/-- 'throw new E("text")': new; dup; ldc; invokespecial; athrow -/
theorem vx_throwS {cc : ByteArray} {pc : Nat} (hexec : p.tables.exec = Jvm.exec) (hb : c.code = cc) (hl : l.stackTraces = false) {own cls text : String} {names : List String} {ik is ic mc ms sa : Nat} {A : Nat → Prop}
    (hown : s.vm.findClass own = some m.cls) (hcls : Bundle.fit cls = true) (hnames : ∀ n ∈ names, Bundle.fit n = true)
    (hk : (Cond.classLink own ik cls).before args s = true) (hini : (Cond.initialized cls).before args s = true) (hstr : vk_R own is text sa s) (hat : ∀ w ∈ vx_atS own ic cls names, w.before args s = true)
    (hgood : ∀ w ∈ Cond.classLink own ik cls :: Cond.initialized cls :: vx_atS own ic cls names, vx_ot w = true)
    (hU : vx_Zq Bundle.tN "UNASSIGNED_STACK" Bundle.steD A s s.heap) (hN : vx_Zq Bundle.tN "SUPPRESSED_SENTINEL" Bundle.listD A s s.heap) (hS : va_S A s.heap H locs) (hsize : ls.size = c.maxLocals)
    (d0 : decode cc pc = .ok (.new ik, 3)) (d3 : decode cc (pc + 3) = .ok (.dup, 1)) (d4 : decode cc (pc + 4) = .ok (.ldc is, 2)) (d6 : decode cc (pc + 6) = .ok (.invokespecial ic, 3)) (d9 : decode cc (pc + 9) = .ok (.athrow, 1))
    (hout : ∀ x ∈ c.exceptionTable.toList, covers x (pc + 9) = false)
    (hRframes : names.length + 3 < R.frames) (hRlocals : (rest.map fun v => v.category).sum + (13 * (names.length + 1) + 43) ≤ R.locals) (hRcells : cells + 1 ≤ R.cells) (hRslots : slots + 6 ≤ R.slots) (hlocks : meth.locks = false)
    (hx : ∀ t : State, s.vm.Alike t.vm → H.size ≤ t.heap.size → (∀ q : Nat, q < H.size → t.heap[q]? = H[q]?) → XC cls s t)
    (hf : ∀ z ∈ locs, free z.base) (hc : cells + 1 ≤ mc) (hs : slots + 6 ≤ ms) :
    W p l e R s m args below meth c H locs cells slots (vx_MQ below Qc XC args s mc ms free) (F0 m pc ls rest) := by
  intro T hT X
  have htr : e.platform.stackTraces = false := (show e.platform.stackTraces = l.stackTraces by rw [X.admits.platform]).trans hl
  have Y := vx_rebase X (R' := { frames := R.frames, locals := R.locals, cells := 1, slots := 6 }) (Nat.le_refl _) (Nat.le_refl _) hRcells hRslots
  obtain ⟨s', hA⟩ : ∃ z, z = (T.setVm s.vm).setFrames (.invoking m args :: below) := ⟨_, rfl⟩
  rw [← hA] at Y
  have hvm : s'.vm = s.vm := by rw [hA]; rfl
  have hhp : s'.heap = H := by rw [hA]; exact hT
  have hW0 : s.WarmedH s'.vm := by rw [hvm]; exact State.WarmedH.refl s
  have hat' : ∀ w ∈ vx_atS own ic cls names, w.before args s' = true := fun w hw => vx_ot_at hW0 hvm.symm (hgood w (List.mem_cons_of_mem _ (List.mem_cons_of_mem _ hw))) (hat w hw)
  have hk' : (Cond.classLink own ik cls).before args s' = true := vx_ot_at hW0 hvm.symm (hgood _ List.mem_cons_self) hk
  have hini' : (Cond.initialized cls).before args s' = true := vx_ot_at hW0 hvm.symm (hgood _ (List.mem_cons_of_mem _ List.mem_cons_self)) hini
  have hU' : vx_Zq Bundle.tN "UNASSIGNED_STACK" Bundle.steD A s' s'.heap := by rw [hhp]; exact vx_Zq.moved hW0.alike (hU.kept hS.2.1)
  have hN' : vx_Zq Bundle.tN "SUPPRESSED_SENTINEL" Bundle.listD A s' s'.heap := by rw [hhp]; exact vx_Zq.moved hW0.alike (hN.kept hS.2.1)
  have h : ∀ w ∈ Bundle.ownAtoms own ic cls names, w.before args s' = true := vx_own hat' (vx_isRefq hU'.1) (vx_isRefq hN'.1) hU'.2.word hN'.2.word
  have hown' : s'.vm.findClass own = some m.cls := by rw [hvm]; exact hown
  have hins : (Cond.instantiable cls 6).before args s' = true := h _ (by simp [Bundle.ownAtoms])
  obtain ⟨vm₁, cX, kX, hfX, hkX, -, -, X₁, st1⟩ := Y.newCold hexec (own := own) (C := cls) (index := ik) (n := 6) hown' hk' hins hini'
    (g := F0 m pc ls rest) rfl (by rw [hb]; exact d0) (Nat.le_refl _) (Nat.le_refl _)
  generalize hT1 : (T.setVm vm₁).pushCell { cls := cX, slots := kX.instanceTypes.map defaultValue, vm := .none } = T1 at X₁ st1
  have hcat : (Value.ref T.heap.size).category = 1 := rfl
  have hcellA : T1.heap[T.heap.size]? = some (freshCell cX kX) := by rw [← hT1]; exact State.heap_pushCell_size _ _
  have d3' : decode c.code (pc + 3) = .ok (.dup, 1) := by rw [hb]; exact d3
  have d4' : decode c.code (pc + 4) = .ok (.ldc is, 2) := by rw [hb]; exact d4
  have hstr' : vk_R own is text sa s' := vk_R.warm hW0 hstr
  obtain ⟨U, hsteps, hrun, hend, hW, hsame, ce, hce, hO⟩ := X₁.ctorThrowS hexec htr (own := own) (cls := cls) (names := names) (ic := ic) hown' hcls hnames h (fun x hx => nomatch hx) hfX hkX hcellA (by rw [hhp, hT]; exact Nat.le_refl _) (msg := .ref sa) rfl
    (g := { method := m, pc := pc + 6, locals := ls, stack := .ref sa :: .ref T.heap.size :: .ref T.heap.size :: rest, locked := none }) rfl hsize rfl rfl (rest := rest) rfl
    (by rw [hb]; exact d6) (by rw [hb]; exact d9) hout hRframes (by simp only [List.map_cons, List.sum_cons, hcat]; omega) hlocks
  obtain ⟨f1, f2⟩ := vx_frame hsame
  rw [hhp] at f1 f2
  have hWs : s.WarmedH U.vm := State.WarmedH.trans hW0 hW
  have hcl : s.vm.findClass cls = some ce.cls := by
    have h9 := hO.cls
    rw [hvm] at h9
    exact h9
  have hall : s.sameButNew ({ U with vm := s.vm } : State) locs mc ms := by
    subst hA
    obtain ⟨e1, e2⟩ := hsame
    rw [State.setFrames_setFrames] at e1
    have h2 : (T.setVm s.vm).sameButNew ({ U with vm := s.vm } : State) [] (0 + 1) (0 + 6) := ⟨e1, e2⟩
    have h3 := X.same.trans h2
    rw [List.append_nil] at h3
    exact h3.mono hc hs
  refine ⟨U, ?_, .threw T.heap.size, hrun, hend, Or.inr ⟨T.heap.size, rfl, cls, ce, locs, hx U hWs.alike f1 (fun q hq => f2 q hq (fun z hz => nomatch hz)), hce, hO.vm, hcl, hWs, hall, hf⟩⟩
  refine st1 _ ?_
  show Steps p.tables e below (T1.setTop { method := m, pc := pc + 3, locals := ls, stack := .ref T.heap.size :: rest, locked := none }) _
  jvm_step X₁.here [X₁.here.top, hexec, d3', Value.category]
  exact X₁.ldcString hexec (own := own) (text := text) (index := is) (a := sa) hown' hstr'.1 hstr'.2
    (g := { method := m, pc := pc + 4, locals := ls, stack := .ref T.heap.size :: .ref T.heap.size :: rest, locked := none }) rfl d4' _ hsteps
/-- 'throw new E("text")', the text by a wide index -/
theorem vx_throwSW {cc : ByteArray} {pc : Nat} (hexec : p.tables.exec = Jvm.exec) (hb : c.code = cc) (hl : l.stackTraces = false) {own cls text : String} {names : List String} {ik is ic mc ms sa : Nat} {A : Nat → Prop}
    (hown : s.vm.findClass own = some m.cls) (hcls : Bundle.fit cls = true) (hnames : ∀ n ∈ names, Bundle.fit n = true)
    (hk : (Cond.classLink own ik cls).before args s = true) (hini : (Cond.initialized cls).before args s = true) (hstr : vk_R own is text sa s) (hat : ∀ w ∈ vx_atS own ic cls names, w.before args s = true)
    (hgood : ∀ w ∈ Cond.classLink own ik cls :: Cond.initialized cls :: vx_atS own ic cls names, vx_ot w = true)
    (hU : vx_Zq Bundle.tN "UNASSIGNED_STACK" Bundle.steD A s s.heap) (hN : vx_Zq Bundle.tN "SUPPRESSED_SENTINEL" Bundle.listD A s s.heap) (hS : va_S A s.heap H locs) (hsize : ls.size = c.maxLocals)
    (d0 : decode cc pc = .ok (.new ik, 3)) (d3 : decode cc (pc + 3) = .ok (.dup, 1)) (d4 : decode cc (pc + 4) = .ok (.ldc_w is, 3)) (d7 : decode cc (pc + 7) = .ok (.invokespecial ic, 3)) (d10 : decode cc (pc + 10) = .ok (.athrow, 1))
    (hout : ∀ x ∈ c.exceptionTable.toList, covers x (pc + 10) = false)
    (hRframes : names.length + 3 < R.frames) (hRlocals : (rest.map fun v => v.category).sum + (13 * (names.length + 1) + 43) ≤ R.locals) (hRcells : cells + 1 ≤ R.cells) (hRslots : slots + 6 ≤ R.slots) (hlocks : meth.locks = false)
    (hx : ∀ t : State, s.vm.Alike t.vm → H.size ≤ t.heap.size → (∀ q : Nat, q < H.size → t.heap[q]? = H[q]?) → XC cls s t)
    (hf : ∀ z ∈ locs, free z.base) (hc : cells + 1 ≤ mc) (hs : slots + 6 ≤ ms) :
    W p l e R s m args below meth c H locs cells slots (vx_MQ below Qc XC args s mc ms free) (F0 m pc ls rest) := by
  intro T hT X
  have htr : e.platform.stackTraces = false := (show e.platform.stackTraces = l.stackTraces by rw [X.admits.platform]).trans hl
  have Y := vx_rebase X (R' := { frames := R.frames, locals := R.locals, cells := 1, slots := 6 }) (Nat.le_refl _) (Nat.le_refl _) hRcells hRslots
  obtain ⟨s', hA⟩ : ∃ z, z = (T.setVm s.vm).setFrames (.invoking m args :: below) := ⟨_, rfl⟩
  rw [← hA] at Y
  have hvm : s'.vm = s.vm := by rw [hA]; rfl
  have hhp : s'.heap = H := by rw [hA]; exact hT
  have hW0 : s.WarmedH s'.vm := by rw [hvm]; exact State.WarmedH.refl s
  have hat' : ∀ w ∈ vx_atS own ic cls names, w.before args s' = true := fun w hw => vx_ot_at hW0 hvm.symm (hgood w (List.mem_cons_of_mem _ (List.mem_cons_of_mem _ hw))) (hat w hw)
  have hk' : (Cond.classLink own ik cls).before args s' = true := vx_ot_at hW0 hvm.symm (hgood _ List.mem_cons_self) hk
  have hini' : (Cond.initialized cls).before args s' = true := vx_ot_at hW0 hvm.symm (hgood _ (List.mem_cons_of_mem _ List.mem_cons_self)) hini
  have hU' : vx_Zq Bundle.tN "UNASSIGNED_STACK" Bundle.steD A s' s'.heap := by rw [hhp]; exact vx_Zq.moved hW0.alike (hU.kept hS.2.1)
  have hN' : vx_Zq Bundle.tN "SUPPRESSED_SENTINEL" Bundle.listD A s' s'.heap := by rw [hhp]; exact vx_Zq.moved hW0.alike (hN.kept hS.2.1)
  have h : ∀ w ∈ Bundle.ownAtoms own ic cls names, w.before args s' = true := vx_own hat' (vx_isRefq hU'.1) (vx_isRefq hN'.1) hU'.2.word hN'.2.word
  have hown' : s'.vm.findClass own = some m.cls := by rw [hvm]; exact hown
  have hins : (Cond.instantiable cls 6).before args s' = true := h _ (by simp [Bundle.ownAtoms])
  obtain ⟨vm₁, cX, kX, hfX, hkX, -, -, X₁, st1⟩ := Y.newCold hexec (own := own) (C := cls) (index := ik) (n := 6) hown' hk' hins hini'
    (g := F0 m pc ls rest) rfl (by rw [hb]; exact d0) (Nat.le_refl _) (Nat.le_refl _)
  generalize hT1 : (T.setVm vm₁).pushCell { cls := cX, slots := kX.instanceTypes.map defaultValue, vm := .none } = T1 at X₁ st1
  have hcat : (Value.ref T.heap.size).category = 1 := rfl
  have hcellA : T1.heap[T.heap.size]? = some (freshCell cX kX) := by rw [← hT1]; exact State.heap_pushCell_size _ _
  have d3' : decode c.code (pc + 3) = .ok (.dup, 1) := by rw [hb]; exact d3
  have d4' : decode c.code (pc + 4) = .ok (.ldc_w is, 3) := by rw [hb]; exact d4
  have hstr' : vk_R own is text sa s' := vk_R.warm hW0 hstr
  obtain ⟨U, hsteps, hrun, hend, hW, hsame, ce, hce, hO⟩ := X₁.ctorThrowS hexec htr (own := own) (cls := cls) (names := names) (ic := ic) hown' hcls hnames h (fun x hx => nomatch hx) hfX hkX hcellA (by rw [hhp, hT]; exact Nat.le_refl _) (msg := .ref sa) rfl
    (g := { method := m, pc := pc + 7, locals := ls, stack := .ref sa :: .ref T.heap.size :: .ref T.heap.size :: rest, locked := none }) rfl hsize rfl rfl (rest := rest) rfl
    (by rw [hb]; exact d7) (by rw [hb]; exact d10) hout hRframes (by simp only [List.map_cons, List.sum_cons, hcat]; omega) hlocks
  obtain ⟨f1, f2⟩ := vx_frame hsame
  rw [hhp] at f1 f2
  have hWs : s.WarmedH U.vm := State.WarmedH.trans hW0 hW
  have hcl : s.vm.findClass cls = some ce.cls := by
    have h9 := hO.cls
    rw [hvm] at h9
    exact h9
  have hall : s.sameButNew ({ U with vm := s.vm } : State) locs mc ms := by
    subst hA
    obtain ⟨e1, e2⟩ := hsame
    rw [State.setFrames_setFrames] at e1
    have h2 : (T.setVm s.vm).sameButNew ({ U with vm := s.vm } : State) [] (0 + 1) (0 + 6) := ⟨e1, e2⟩
    have h3 := X.same.trans h2
    rw [List.append_nil] at h3
    exact h3.mono hc hs
  refine ⟨U, ?_, .threw T.heap.size, hrun, hend, Or.inr ⟨T.heap.size, rfl, cls, ce, locs, hx U hWs.alike f1 (fun q hq => f2 q hq (fun z hz => nomatch hz)), hce, hO.vm, hcl, hWs, hall, hf⟩⟩
  refine st1 _ ?_
  show Steps p.tables e below (T1.setTop { method := m, pc := pc + 3, locals := ls, stack := .ref T.heap.size :: rest, locked := none }) _
  jvm_step X₁.here [X₁.here.top, hexec, d3', Value.category]
  exact X₁.ldcStringW hexec (own := own) (text := text) (index := is) (a := sa) hown' hstr'.1 hstr'.2
    (g := { method := m, pc := pc + 4, locals := ls, stack := .ref T.heap.size :: .ref T.heap.size :: rest, locked := none }) rfl d4' _ hsteps
end Ends
section Bodies
variable {l : Launch}
theorem vx_ofW {y : MethodName} {ws ws' : List Cond} {rm : Room} {Pc : Array Value → State → Prop} {Qc : Array Value → State → Outcome → State → Prop} {XC : String → State → State → Prop} {mc ms : Nat} {free : Addr → Prop} {cc : ByteArray} {maxL : Nat} {ret : Option FieldType}
    (hy : plainName y.cls = true) (hw : ws = Cond.code y cc maxL ret :: ws')
    (body : ∀ p e s m args below meth c s₁, BodyLoose p l y (headSpec ws rm) cc maxL ret e s m args below meth c s₁ → c.maxLocals = maxL → (∀ x ∈ c.exceptionTable.toList, False) → Pc args s →
      W p l e (headSpec ws rm).room s m args below meth c s.heap [] 0 0 (vx_MQ below Qc XC args s mc ms free) (entryFrame m args maxL)) : vx_Met l y ws rm Pc Qc XC mc ms free := by
  refine MetFree.of_bodyS (code := cc) (maxLocals := maxL) (ret := ret) hy ?_ ?_
  · intro args s m h hn
    obtain ⟨meth, c, h1, h2, h3, h4, h5, h6, -, -⟩ := Cond.code_spec hn (atoms_spec (ws := ws) h _ (by rw [hw]; exact List.mem_cons_self))
    exact ⟨meth, c, h1, h2, h3, h4, h5, h6⟩
  · intro p e s m args below meth c s₁ B hml hP _
    have hh0 : s₁.heap = s.heap := by rw [B.state]; rfl
    have ht : ∀ x ∈ c.exceptionTable.toList, False := by
      obtain ⟨meth9, c9, h1, h2, -, -, -, -, h7, -⟩ := Cond.code_spec B.named (atoms_spec (ws := ws) B.pre _ (by rw [hw]; exact List.mem_cons_self))
      cases Option.some.inj (h1.symm.trans B.method)
      cases Option.some.inj (h2.symm.trans (Stand.of_body B).code)
      intro x hx
      rw [Array.isEmpty_iff.mp h7] at hx
      cases hx
    obtain ⟨t, a1, o, b1, b2, b3⟩ := body p e s m args below meth c s₁ B hml ht hP s₁ hh0 (Stand.of_body B)
    exact ⟨t, o, a1, b1, b2, b3⟩
/-- the table of a body with handlers -/
theorem vx_table {p : Program} {x y : MethodName} {S : Spec} {cc bytes : ByteArray} {maxL maxL' : Nat} {ret ret' : Option FieldType} {e : Env} {s s₁ : State} {m : MethodId} {args : Array Value} {below : List Frame} {meth : Method} {c : Code} {hh : List (Nat × Nat × Nat × Nat)}
    (B : BodyLoose p l y S cc maxL ret e s m args below meth c s₁) (h : (Cond.codeWith y bytes maxL' ret' hh).before args s = true) : c.exceptionTable.toList = tableOf hh := by
  obtain ⟨m9, meth9, c9, hn9, h1, h2, -, -, h6, -⟩ := Cond.codeWith_spec h
  cases Option.some.inj (hn9.symm.trans B.named)
  cases Option.some.inj (h1.symm.trans B.method)
  cases Option.some.inj (h2.symm.trans (Stand.of_body B).code)
  rw [← h6, table_eq]
end Bodies
end VXA
/-! ===== END ===== -/
/-! ===== BEGIN a static call of a method with an exception table ===== -/
section VXS
variable {p : Program} {l : Launch} {e : Env} {R : Room} {s : State} {m : MethodId} {args : Array Value} {below : List Frame} {meth : Method} {c : Code} {T : State} {H : Heap} {locs : List Loc} {cells slots : Nat}
abbrev vx_CSW (R : Room) (s : State) (args : Array Value) (own : String) (index : Nat) (y : MethodName) (bytes : ByteArray) (maxL : Nat) (ret : Option FieldType) (hh : List (Nat × Nat × Nat × Nat)) (ws : List Cond) (rm : Room) (mc ms n : Nat) : Prop :=
  (rm.cells = mc ∧ rm.slots = ms ∧ rm.frames + 1 ≤ R.frames ∧ 8 + (maxL + 11) + rm.locals ≤ R.locals ∧ (∀ w ∈ ws, ∀ (a' : Array Value) (U : State), s.WarmedH U.vm → w.before a' U = true) ∧ Cond.codeWith y bytes maxL ret hh ∈ ws) ∧
  (Cond.codeWith y bytes maxL ret hh).before args s = true ∧ (Cond.initialized y.cls).before args s = true ∧ (y.cls ≠ "java/lang/invoke/MethodHandle" ∧ y.cls ≠ "java/lang/invoke/VarHandle") ∧
  (∀ sig, parseMethodDescriptor y.desc = some sig → n = sig.parameters.length) ∧ (Cond.methodLink own index y).before args s = true ∧ (Cond.static y).before args s = true
theorem vx_cwSW {own : String} {index maxL mc ms : Nat} {y : MethodName} {bytes : ByteArray} {ret : Option FieldType} {hh : List (Nat × Nat × Nat × Nat)} {Ts ws ws' : List Cond} {rm : Room} (n : Nat) (ht : ∀ w ∈ Ts, w.before args s = true) (hT : GoodIn Ts (va_wsS own index y ws)) (hw : ws = Cond.codeWith y bytes maxL ret hh :: ws') (hrc : rm.cells = mc) (hrs : rm.slots = ms)
    (hd : y.cls ≠ "java/lang/invoke/MethodHandle" ∧ y.cls ≠ "java/lang/invoke/VarHandle" ∧ (parseMethodDescriptor y.desc).map (fun d => d.parameters.length) = some n) (hR : rm.frames + 1 ≤ R.frames ∧ 8 + (maxL + 11) + rm.locals ≤ R.locals) :
    vx_CSW R s args own index y bytes maxL ret hh ws rm mc ms n := by
  have ok : ∀ w ∈ va_wsS own index y ws, w.before args s = true := fun w h => ht w (hT w h).1
  have hG : GoodIn Ts ws := fun w h => hT w (by unfold va_wsS; exact List.mem_append_right _ h)
  have hc : Cond.codeWith y bytes maxL ret hh ∈ ws := by rw [hw]; exact List.mem_cons_self
  refine ⟨⟨hrc, hrs, hR.1, hR.2, pay_in ht hG, hc⟩, ht _ (hG _ hc).1, ok _ (by simp [va_wsS]), ⟨hd.1, hd.2.1⟩, fun sig h => ?_, ok _ (by simp [va_wsS]), ok _ (by simp [va_wsS])⟩
  have h2 := hd.2.2
  rw [h] at h2
  exact (Option.some.inj h2).symm
theorem vx_callSW (X : Stand p l e R s m args below meth c T locs cells slots) (hexec : p.tables.exec = Jvm.exec) {own : String} {index : Nat} {y : MethodName} {bytes : ByteArray} {maxL : Nat} {ret : Option FieldType} {hh : List (Nat × Nat × Nat × Nat)}
    (hown : s.vm.findClass own = some m.cls) (hlink : (Cond.methodLink own index y).before args s = true) (hstat : (Cond.static y).before args s = true) (hinit : (Cond.initialized y.cls).before args s = true)
    (hcode : (Cond.codeWith y bytes maxL ret hh).before args s = true) (hy : y.cls ≠ "java/lang/invoke/MethodHandle" ∧ y.cls ≠ "java/lang/invoke/VarHandle")
    {W9 : Nat} {Pre : Pt → Array Value → Prop} {Post : Pt → Array Value → Option Value → Pt → Prop} (hK : Back l R p e below s args y 3 W9 Pre Post)
    {g : JFrame} (hg : g.method = m) (hsize : g.locals.size = c.maxLocals) {argsL rest : List Value} (hlen : ∀ sig, parseMethodDescriptor y.desc = some sig → argsL.length = sig.parameters.length)
    (hstack : g.stack = argsL.reverse ++ rest) (hW : 2 * g.monitorRoom + (rest.map fun v => v.category).sum ≤ W9) (hdg : decode c.code g.pc = .ok (.invokestatic index, 3))
    (hpre : ∀ vm₁, s.WarmedH vm₁ → Pre ⟨T.setVm vm₁, locs, cells, slots⟩ argsL.toArray) :
    ∃ (v : Option Value) (vm₁ : Vm) (B : Pt), s.WarmedH vm₁ ∧ Stand p l e R s m args below meth c B.U B.locs B.cells B.slots ∧ Post ⟨T.setVm vm₁, locs, cells, slots⟩ argsL.toArray v B ∧
      ∀ target, Steps p.tables e below (B.U.setTop { g with pc := g.pc + 3, stack := v.toList ++ rest }) target → Steps p.tables e below (T.setTop g) target := by
  obtain ⟨mk, methM, cM, hnamed, hmethM, -, -, -, -, -, -, hsigM⟩ := Cond.codeWith_spec hcode
  have hstatic : methM.isStatic = true := Cond.static_spec hnamed hmethM hstat
  obtain ⟨kP, hkP, -⟩ := className_of_methodNamed hnamed
  have hinitP : kP.init = .initialized := Cond.initialized_spec (findClass_of_methodNamed hnamed) hkP hinit
  obtain ⟨vm₁, X₁, hstep₁⟩ := X.invokestatic hexec hown hlink hnamed hmethM hstatic hkP hinitP hy (g := g) hg (argsL := argsL) (rest := rest) (hlen _ hsigM) hstack hdg
  obtain ⟨v, B, X', hpost, hsteps⟩ := hK m meth c ⟨T.setVm vm₁, locs, cells, slots⟩ { g with stack := rest } (.invokestatic index) mk argsL.toArray X₁ hg hsize hdg hW (X₁.named hnamed) (hpre vm₁ X₁.warmed)
  exact ⟨v, vm₁, B, X₁.warmed, X', hpost, fun target h => hstep₁ _ fun acts => by rw [doInvoke_state]; exact hsteps.trans h⟩
theorem vx_runSW {y : MethodName} {bytes cc : ByteArray} {maxL nL mc ms n index : Nat} {ret : Option FieldType} {hh : List (Nat × Nat × Nat × Nat)} {ws : List Cond} {rm : Room} {Pc : Array Value → State → Prop} {Qc : Array Value → State → Outcome → State → Prop} {free : Addr → Prop} {Ts : List Cond} {own : String} {As rest : List Value} {g : JFrame}
    (S : CallFix p m c cc nL s args Ts own) (hM : Met l y ws rm Pc Qc mc ms free) (cw : vx_CSW R s args own index y bytes maxL ret hh ws rm mc ms n) (hp : PreS s H Pc As)
    (hg : g.method = m) (hn : As.length = n) (hsize : g.locals.size = nL) (hstack : g.stack = As.reverse ++ rest) (hW : 2 * g.monitorRoom + (rest.map fun v => v.category).sum ≤ 8) (hdg : decode cc g.pc = .ok (.invokestatic index, 3)) (hf : cells + mc ≤ R.cells ∧ slots + ms ≤ R.slots) :
    va_Run p l e R s m args below meth c H locs cells slots mc ms g rest (Qc As.toArray) (free) := by
  obtain ⟨⟨hrc, hrs, hfr, hlo, hws, hcw⟩, hcode, hini, hy, hlen, hl, hstt⟩ := cw
  have hK : Back l R p e below s args y 3 8 (PreOf R mc ms Pc) (PostOf Qc mc ms free) := va_backW (hh := hh) (bytes := bytes) (maxL := maxL) (ret := ret) hM hp.1 hrc hrs hfr hlo hws hcw (fun a' U hW => word_at hW (Or.inl (by first | rfl | simp [Cond.onTables, Cond.keeps, Cond.steady])) hini)
  obtain ⟨hx, hb, hml, ho, -⟩ := S
  intro T hT X
  obtain ⟨v, vm₁, ⟨U', l2, c2, s2⟩, hW₁, X', ⟨g', mk, t, L, e1, e2, hq, h1, hL, h2, h3⟩, st⟩ := vx_callSW X hx (hh := hh) (bytes := bytes) (maxL := maxL) (ret := ret) ho hl hstt hini hcode hy hK hg (hsize.trans hml.symm) (argsL := As) (rest := rest) (fun sig h => hn.trans (hlen sig h)) hstack hW (by rw [hb]; exact hdg)
    (fun vm₁ hW₁ => ⟨hf.1, hf.2, hp.2 (T.setVm vm₁) hT hW₁⟩)
  dsimp only [Pt.U, Pt.locs, Pt.cells, Pt.slots] at X' e1 e2 h1 h2 h3 st
  subst h1; subst h2; subst h3
  exact ⟨v, (T.setVm vm₁).calling g' mk As.toArray, t, U', L, hT, X', hL, e1, e2, hq, st⟩
/-- not caught here, past rows that name other classes: it goes on to the caller -/
theorem vx_outP {p : Program} {l : Launch} {e : Env} {R : Room} {s : State} {m : MethodId} {args : Array Value} {below : List Frame} {meth : Method} {c : Code} {H : Heap} {locs : List Loc} {cells slots : Nat} {free : Addr → Prop} {ls : Array Slot} {rest : List Value} {Qc : Array Value → State → Outcome → State → Prop} {XC : String → State → State → Prop}
    {pc : Nat} {own E : String} {ce : Cell} {q : Addr} {mc ms : Nat} (hown : s.vm.findClass own = some m.cls) (hlocks : meth.locks = false)
    (hpass : ∀ z ∈ c.exceptionTable.toList, covers z pc = false ∨ (z.catchType ≠ 0 ∧ ∃ nm : String, (Cond.classLink own z.catchType nm).before args s = true ∧ va_Nc E nm s)) (hcell : H[q]? = some ce) (hv : ce.vm = .none) (hcl : s.vm.findClass E = some ce.cls)
    (hx : ∀ t : State, t.heap = H → s.vm.Alike t.vm → XC E s t) (hf : ∀ z ∈ locs, free z.base) (hc : cells ≤ mc) (hs : slots ≤ ms) :
    vx_W p l e R s m args below meth c H locs cells slots (vx_MQ below Qc XC args s mc ms free) (F0 m pc ls rest) q := by
  intro T hT X
  have hpl : e.platform.magicAccessors = ({} : Platform).magicAccessors := by rw [X.admits.platform]
  obtain ⟨vm', hW', X', st⟩ := X.outThrough hlocks q (g := F0 m pc ls rest) rfl rfl rfl (cell := ce) (by rw [hT]; exact hcell) (by rw [hv]; rfl)
    (by obtain ⟨k9, h9, -⟩ := Vm.findClass_spec hcl; exact ⟨k9, h9⟩) (fun z hz => by
      rcases hpass z hz with h | ⟨hz0, nm, hl1, hn1⟩
      · exact Or.inl h
      · obtain ⟨c6, hc6, hcl6⟩ := Cond.classLink_spec hown hl1 e.platform hpl
        obtain ⟨a8, b8, h1, h2, h3⟩ := hn1
        cases Option.some.inj (h1.symm.trans hcl)
        cases Option.some.inj (h2.symm.trans hc6)
        exact Or.inr ⟨hz0, _, hcl6, h3⟩)
  obtain ⟨g₀, hfr⟩ := X'.frames_eq
  have hcell9 : ((T.setVm vm').setFrames (.throwing q :: below)).heap[q]? = some ce := by
    show T.heap[q]? = some ce
    rw [hT]; exact hcell
  have hend : Ended ((T.setVm vm').setFrames (.throwing q :: below)) below (.threw q) := State.frames_setFrames _ (State.cur_lt_of_frames hfr)
  refine ⟨(T.setVm vm').setFrames (.throwing q :: below), ?_, .threw q, X'.here.running, hend, Or.inr ⟨q, rfl, E, ce, locs, hx _ hT (X'.ends _).1.alike, hcell9, hv, hcl, (X'.ends _).1, (X'.ends _).2.mono hc hs, hf⟩⟩
  rw [X.pushThrowing_eq]
  exact st
/-- a thing of a world lies in the heap -/
theorem vx_lt {D : va_G} {cl : List vw_C} {ws : va_W} {H1 : Heap} (h : va_P D cl ws H1) {k : Nat} {q : Nat × va_E} (hk : ws[k]? = some q) : q.1 < H1.size := (h k q hk).lt
end VXS
/-! ===== END ===== -/
/-! ===== BEGIN methods with a table of their own: called by a name, returning or throwing ===== -/
section VXH
/-! vx_backW, vx_callVX, vx_callSX, vx_callVW, vx_runVW, vx_runVX, vx_runSX, vx_ofWH follow the same proofs as their sisters above (Free/Laws.lean, Shelf42/LK1.lean); vx_outP calls Shelf42/NT130.lean (outThrough). -/
section
variable {l : Launch} {R : Room} {p : Program} {e : Env} {below : List Frame} {s : State} {sargs : Array Value} {y : MethodName} {len W9 : Nat}
theorem vx_backW {ws : List Cond} {rm : Room} {Pc : Array Value → State → Prop} {Qc : Array Value → State → Outcome → State → Prop} {XC : String → State → State → Prop} {mc ms : Nat} {free : Addr → Prop} {bytes : ByteArray} {maxL : Nat} {ret : Option FieldType} {hh : List (Nat × Nat × Nat × Nat)}
    (hM : vx_Met l y ws rm Pc Qc XC mc ms free) (hblind : FrameBlind Pc) (hrc : rm.cells = mc) (hrs : rm.slots = ms)
    (hframes : rm.frames + 1 ≤ R.frames) (hlocals : W9 + (maxL + 11) + rm.locals ≤ R.locals)
    (hws : ∀ w ∈ ws, ∀ a' U, s.WarmedH U.vm → w.before a' U = true) (hcode : Cond.codeWith y bytes maxL ret hh ∈ ws) (hinit : ∀ a' U, s.WarmedH U.vm → (Cond.initialized y.cls).before a' U = true) :
    vx_Back l R p e below s sargs y len W9 (PreOf R mc ms Pc) (PostOf Qc mc ms free) (vx_Post XC mc ms free) := by
  intro m meth c A g ig mk a X hg hsize hdg hW hn hp
  have h1 : (headSpec ws rm).pre.before a A.U = true := atoms_intro fun w hw => hws w hw _ _ X.warmed
  have h2 : (Cond.codeWith y bytes maxL ret hh).before a A.U = true := hws _ hcode _ _ X.warmed
  have h3 : (Cond.initialized y.cls).before a A.U = true := hinit _ _ X.warmed
  have h4 : A.cells + (headSpec ws rm).room.cells ≤ R.cells := by rw [show (headSpec ws rm).room.cells = mc from hrc]; exact hp.1
  have h5 : A.slots + (headSpec ws rm).room.slots ≤ R.slots := by rw [show (headSpec ws rm).room.slots = ms from hrs]; exact hp.2.1
  have hPc : Pc a (A.U.calling g mk a) := hblind _ _ _ _ hp.2.2
  obtain ⟨U, Ls, c0, s0⟩ := A
  dsimp only [Pt.U, Pt.locs, Pt.cells, Pt.slots] at h1 h2 h3 h4 h5 X hn hPc ⊢
  obtain ⟨m9, methY, cY, hn9, hmY, hcY, -, hlY, -⟩ := Cond.codeWith_spec h2
  cases Option.some.inj (hn9.symm.trans hn)
  obtain ⟨kY, hkY, -⟩ := className_of_methodNamed hn
  have hinitY : kY.init = .initialized := Cond.initialized_spec (findClass_of_methodNamed hn) hkY h3
  have h : At U g.method c below := by rw [hg]; exact X.here
  have hlocals9 : W9 + (maxL + 11) + (headSpec ws rm).room.locals ≤ R.locals := hlocals
  have happ : (headSpec ws rm).appliesLoose y e.platform (U.calling g mk a) = true :=
    Spec.appliesLoose_calling (g := g) h hdg hn hkY hinitY
      (X.room_calling (g := g) (R' := (headSpec ws rm).room) hsize hmY hcY hframes (by rw [hlY]; omega) h4 h5) h1
  obtain ⟨mid, hmid⟩ := h.above
  have hfr : (U.setTop g).frames = (.java g :: mid) ++ below := by rw [State.frames_setTop' g h.top, hmid]; rfl
  obtain ⟨o, s₂, hsteps, -, hend, hq⟩ := Steps.callFree hM p X.admits X.cas X.clock (acts := []) hfr happ hPc trivial
  have hq' : vx_Q Qc XC mc ms free a (U.calling g mk a) o s₂ := hq
  rw [State.frames_setTop' g h.top] at hend
  obtain ⟨g₀, hg0⟩ := Option.isSome_iff_exists.mp h.top
  obtain ⟨r, hr⟩ := State.topJava?_eq_some.mp hg0
  have hr' : (({ U with heap := s₂.heap, slotsUsed := s₂.slotsUsed } : State).setVm s₂.vm).frames = .java g₀ :: r := hr
  rcases hq' with ⟨hqc, L, hfe, hL⟩ | ⟨q, rfl, E, ce, L, hx, hce, hcv, hcl, hW₂, hsm, hL⟩
  · obtain ⟨⟨v, rfl⟩, hW₂, e2, q2, q3, q4, q5, q6⟩ := id hfe
    have e3 : s₂ = ({ (U.calling g mk a).setFrames s₂.frames with heap := s₂.heap, slotsUsed := s₂.slotsUsed } : State).setVm s₂.vm := by
      have : s₂ = ({ s₂ with vm := (U.calling g mk a).vm } : State).setVm s₂.vm := rfl
      rw [e2] at this
      exact this
    obtain ⟨c₂, i₂, len₂, hc₂, hd₂, hf₂⟩ := hend
    have hW' : U.WarmedH s₂.vm := hW₂
    have hcc : c₂ = c := by
      have h1 : s₂.code? g.method = U.code? g.method := by
        rw [State.code?_eq, State.code?_eq, hW'.alike.method?]
      exact Option.some.inj (hc₂.symm.trans (h1.trans h.code))
    subst hcc
    have hlen : len₂ = len := by rw [hdg] at hd₂; cases hd₂; rfl
    subst hlen
    have hs₂ : s₂ = (({ U with heap := s₂.heap, slotsUsed := s₂.slotsUsed } : State).setVm s₂.vm).setTop { g with pc := g.pc + len₂, stack := v.toList ++ g.stack } := by
      refine e3.trans ?_
      rw [hf₂, State.calling_eq h.top, State.setFrames_setFrames, State.setTop_of_frames _ hr', hr]
      rfl
    have hsame : U.sameButNew ({ U with heap := s₂.heap, slotsUsed := s₂.slotsUsed } : State) L mc ms := by
      refine ⟨?_, q2, q3, q4, q5, q6⟩
      obtain ⟨t, ht, -⟩ := State.frames_cons hr
      show ({ U with heap := s₂.heap, slotsUsed := s₂.slotsUsed } : State) = { U.setFrames U.frames with heap := s₂.heap, slotsUsed := s₂.slotsUsed }
      rw [State.setFrames_self ht]
    subst hg
    refine Or.inl ⟨v, ⟨(({ U with heap := s₂.heap, slotsUsed := s₂.slotsUsed } : State).setVm s₂.vm), Ls ++ L, c0 + mc, s0 + ms⟩,
      ⟨X.admits, X.cas, X.clock, X.frames, X.room, X.hears, X.method, X.code, (X.here.setHeapUsed s₂.heap s₂.slotsUsed).setVm hW'.alike, X.tail, State.WarmedH.trans X.warmed hW', X.limits, X.bytes, X.same.trans (hsame.setVm s.vm)⟩,
      ⟨g, mk, s₂, L, rfl, rfl, hqc, rfl, hL, rfl, rfl⟩, ?_⟩
    show Steps p.tables e below _ ((({ U with heap := s₂.heap, slotsUsed := s₂.slotsUsed } : State).setVm s₂.vm).setTop { g with pc := g.pc + len₂, stack := v.toList ++ g.stack })
    rw [← hs₂]
    exact hsteps
  · obtain ⟨e2, q2, q3, q4, q5, q6⟩ := id hsm
    have e3 : s₂ = ({ (U.calling g mk a).setFrames s₂.frames with heap := s₂.heap, slotsUsed := s₂.slotsUsed } : State).setVm s₂.vm := by
      have : s₂ = ({ s₂ with vm := (U.calling g mk a).vm } : State).setVm s₂.vm := rfl
      rw [e2] at this
      exact this
    have hf₂ : s₂.frames = .throwing q :: .java g :: U.frames.tail := hend
    have hW' : U.WarmedH s₂.vm := hW₂
    have hs₂ : s₂ = ((({ U with heap := s₂.heap, slotsUsed := s₂.slotsUsed } : State).setVm s₂.vm).setTop g).pushFrame (.throwing q) := by
      refine e3.trans ?_
      rw [hf₂, State.calling_eq h.top, State.setFrames_setFrames, State.pushFrame, State.frames_setTop _ hr', State.setTop_of_frames _ hr', State.setFrames_setFrames, hr]
      rfl
    have hsame : U.sameButNew ({ U with heap := s₂.heap, slotsUsed := s₂.slotsUsed } : State) L mc ms := by
      refine ⟨?_, q2, q3, q4, q5, q6⟩
      obtain ⟨t, ht, -⟩ := State.frames_cons hr
      show ({ U with heap := s₂.heap, slotsUsed := s₂.slotsUsed } : State) = { U.setFrames U.frames with heap := s₂.heap, slotsUsed := s₂.slotsUsed }
      rw [State.setFrames_self ht]
    subst hg
    refine Or.inr ⟨q, ⟨(({ U with heap := s₂.heap, slotsUsed := s₂.slotsUsed } : State).setVm s₂.vm), Ls ++ L, c0 + mc, s0 + ms⟩,
      ⟨X.admits, X.cas, X.clock, X.frames, X.room, X.hears, X.method, X.code, (X.here.setHeapUsed s₂.heap s₂.slotsUsed).setVm hW'.alike, X.tail, State.WarmedH.trans X.warmed hW', X.limits, X.bytes, X.same.trans (hsame.setVm s.vm)⟩,
      ⟨g, mk, s₂, L, E, ce, rfl, rfl, hx, hce, hcv, hcl, rfl, hL, rfl, rfl⟩, ?_⟩
    show Steps p.tables e below _ (((({ U with heap := s₂.heap, slotsUsed := s₂.slotsUsed } : State).setVm s₂.vm).setTop g).pushFrame (.throwing q))
    rw [← hs₂]
    exact hsteps
end
variable {p : Program} {l : Launch} {e : Env} {R : Room} {s : State} {m : MethodId} {args : Array Value} {below : List Frame} {meth : Method} {c : Code} {T : State} {H : Heap} {locs : List Loc} {cells slots : Nat}
theorem vx_callVX (X : Stand p l e R s m args below meth c T locs cells slots) (hexec : p.tables.exec = Jvm.exec) {own C : String} {index : Nat} {y : MethodName} {bytes : ByteArray} {maxL : Nat} {ret : Option FieldType} {hh : List (Nat × Nat × Nat × Nat)}
    (hown : s.vm.findClass own = some m.cls) (hlink : (Cond.methodLink own index y).before args s = true) (hinst : (Cond.instanceMethod y).before args s = true) (hsel : (Cond.selects C y y).before args s = true)
    (hcode : (Cond.codeWith y bytes maxL ret hh).before args s = true) (hy : y.cls ≠ "java/lang/invoke/MethodHandle" ∧ y.cls ≠ "java/lang/invoke/VarHandle")
    {W9 : Nat} {Pre : Pt → Array Value → Prop} {Post : Pt → Array Value → Option Value → Pt → Prop} {PostX : Pt → Array Value → Addr → Pt → Prop} (hK : vx_Back l R p e below s args y 3 W9 Pre Post PostX)
    {b : Addr} {cellB : Cell} (hcell : T.heap[b]? = some cellB) (hobj : cellB.vm.isStatics = false) (hcls : s.vm.findClass C = some cellB.cls)
    {g : JFrame} (hg : g.method = m) (hsize : g.locals.size = c.maxLocals) {argsL rest : List Value} (hlen : ∀ sig, parseMethodDescriptor y.desc = some sig → argsL.length = sig.parameters.length)
    (hstack : g.stack = argsL.reverse ++ .ref b :: rest) (hW : 2 * g.monitorRoom + (rest.map fun v => v.category).sum ≤ W9) (hdg : decode c.code g.pc = .ok (.invokevirtual index, 3))
    (hpre : ∀ vm₁, s.WarmedH vm₁ → Pre ⟨T.setVm vm₁, locs, cells, slots⟩ (Value.ref b :: argsL).toArray) :
    (∃ (v : Option Value) (vm₁ : Vm) (B : Pt), s.WarmedH vm₁ ∧ Stand p l e R s m args below meth c B.U B.locs B.cells B.slots ∧ Post ⟨T.setVm vm₁, locs, cells, slots⟩ (Value.ref b :: argsL).toArray v B ∧
      ∀ target, Steps p.tables e below (B.U.setTop { g with pc := g.pc + 3, stack := v.toList ++ rest }) target → Steps p.tables e below (T.setTop g) target) ∨
    (∃ (q : Addr) (vm₁ : Vm) (B : Pt), s.WarmedH vm₁ ∧ Stand p l e R s m args below meth c B.U B.locs B.cells B.slots ∧ PostX ⟨T.setVm vm₁, locs, cells, slots⟩ (Value.ref b :: argsL).toArray q B ∧
      Steps p.tables e below (T.setTop g) ((B.U.setTop { g with stack := rest }).pushFrame (.throwing q))) := by
  obtain ⟨mk, methM, hnamed, hmethM, hstM, habM⟩ := Cond.instanceMethod_spec hinst
  obtain ⟨m8, methM', cM, hn8, hmethM', -, -, -, -, -, -, hsigM⟩ := Cond.codeWith_spec hcode
  cases Option.some.inj (hn8.symm.trans hnamed)
  cases hmethM.symm.trans hmethM'
  obtain ⟨c2, r2, m2, q1, q2, q3, q4, kP, hkP, hkPi⟩ := Cond.selects_spec hsel
  cases hcls.symm.trans q1
  cases (State.methodFound?_of_named hnamed hy).symm.trans q2
  cases hnamed.symm.trans q3
  have hselP : selectMethod e.platform s.vm cellB.cls mk = .method mk := by rw [Launch.admits_selectMethod X.admits]; exact q4
  obtain ⟨vm₁, X₁, hstep₁⟩ := X.invokevirtual hexec hown hlink hnamed hmethM hstM hkP hkPi hy (a := b) (cell := cellB) hcell
    (fun z h => by rw [h] at hobj; cases hobj) hselP hmethM habM hkP hkPi (g := g) hg (argsL := argsL) (rest := rest) (hlen _ hsigM) hstack hdg
  rcases hK m meth c ⟨T.setVm vm₁, locs, cells, slots⟩ { g with stack := rest } (.invokevirtual index) mk (Value.ref b :: argsL).toArray X₁ hg hsize hdg hW (X₁.named hnamed) (hpre vm₁ X₁.warmed) with ⟨v, B, X', hpost, hsteps⟩ | ⟨q, B, X', hpost, hsteps⟩
  · exact Or.inl ⟨v, vm₁, B, X₁.warmed, X', hpost, fun target h => hstep₁ _ fun acts => by rw [doInvoke_state]; exact hsteps.trans h⟩
  · exact Or.inr ⟨q, vm₁, B, X₁.warmed, X', hpost, hstep₁ _ fun acts => by rw [doInvoke_state]; exact hsteps⟩
theorem vx_callSX (X : Stand p l e R s m args below meth c T locs cells slots) (hexec : p.tables.exec = Jvm.exec) {own : String} {index : Nat} {y : MethodName} {bytes : ByteArray} {maxL : Nat} {ret : Option FieldType} {hh : List (Nat × Nat × Nat × Nat)}
    (hown : s.vm.findClass own = some m.cls) (hlink : (Cond.methodLink own index y).before args s = true) (hstat : (Cond.static y).before args s = true) (hinit : (Cond.initialized y.cls).before args s = true)
    (hcode : (Cond.codeWith y bytes maxL ret hh).before args s = true) (hy : y.cls ≠ "java/lang/invoke/MethodHandle" ∧ y.cls ≠ "java/lang/invoke/VarHandle")
    {W9 : Nat} {Pre : Pt → Array Value → Prop} {Post : Pt → Array Value → Option Value → Pt → Prop} {PostX : Pt → Array Value → Addr → Pt → Prop} (hK : vx_Back l R p e below s args y 3 W9 Pre Post PostX)
    {g : JFrame} (hg : g.method = m) (hsize : g.locals.size = c.maxLocals) {argsL rest : List Value} (hlen : ∀ sig, parseMethodDescriptor y.desc = some sig → argsL.length = sig.parameters.length)
    (hstack : g.stack = argsL.reverse ++ rest) (hW : 2 * g.monitorRoom + (rest.map fun v => v.category).sum ≤ W9) (hdg : decode c.code g.pc = .ok (.invokestatic index, 3))
    (hpre : ∀ vm₁, s.WarmedH vm₁ → Pre ⟨T.setVm vm₁, locs, cells, slots⟩ argsL.toArray) :
    (∃ (v : Option Value) (vm₁ : Vm) (B : Pt), s.WarmedH vm₁ ∧ Stand p l e R s m args below meth c B.U B.locs B.cells B.slots ∧ Post ⟨T.setVm vm₁, locs, cells, slots⟩ argsL.toArray v B ∧
      ∀ target, Steps p.tables e below (B.U.setTop { g with pc := g.pc + 3, stack := v.toList ++ rest }) target → Steps p.tables e below (T.setTop g) target) ∨
    (∃ (q : Addr) (vm₁ : Vm) (B : Pt), s.WarmedH vm₁ ∧ Stand p l e R s m args below meth c B.U B.locs B.cells B.slots ∧ PostX ⟨T.setVm vm₁, locs, cells, slots⟩ argsL.toArray q B ∧
      Steps p.tables e below (T.setTop g) ((B.U.setTop { g with stack := rest }).pushFrame (.throwing q))) := by
  obtain ⟨mk, methM, cM, hnamed, hmethM, -, -, -, -, -, -, hsigM⟩ := Cond.codeWith_spec hcode
  have hstatic : methM.isStatic = true := Cond.static_spec hnamed hmethM hstat
  obtain ⟨kP, hkP, -⟩ := className_of_methodNamed hnamed
  have hinitP : kP.init = .initialized := Cond.initialized_spec (findClass_of_methodNamed hnamed) hkP hinit
  obtain ⟨vm₁, X₁, hstep₁⟩ := X.invokestatic hexec hown hlink hnamed hmethM hstatic hkP hinitP hy (g := g) hg (argsL := argsL) (rest := rest) (hlen _ hsigM) hstack hdg
  rcases hK m meth c ⟨T.setVm vm₁, locs, cells, slots⟩ { g with stack := rest } (.invokestatic index) mk argsL.toArray X₁ hg hsize hdg hW (X₁.named hnamed) (hpre vm₁ X₁.warmed) with ⟨v, B, X', hpost, hsteps⟩ | ⟨q, B, X', hpost, hsteps⟩
  · exact Or.inl ⟨v, vm₁, B, X₁.warmed, X', hpost, fun target h => hstep₁ _ fun acts => by rw [doInvoke_state]; exact hsteps.trans h⟩
  · exact Or.inr ⟨q, vm₁, B, X₁.warmed, X', hpost, hstep₁ _ fun acts => by rw [doInvoke_state]; exact hsteps⟩
theorem vx_callVW (X : Stand p l e R s m args below meth c T locs cells slots) (hexec : p.tables.exec = Jvm.exec) {own C : String} {index : Nat} {y : MethodName} {bytes : ByteArray} {maxL : Nat} {ret : Option FieldType} {hh : List (Nat × Nat × Nat × Nat)}
    (hown : s.vm.findClass own = some m.cls) (hlink : (Cond.methodLink own index y).before args s = true) (hinst : (Cond.instanceMethod y).before args s = true) (hsel : (Cond.selects C y y).before args s = true)
    (hcode : (Cond.codeWith y bytes maxL ret hh).before args s = true) (hy : y.cls ≠ "java/lang/invoke/MethodHandle" ∧ y.cls ≠ "java/lang/invoke/VarHandle")
    {W9 : Nat} {Pre : Pt → Array Value → Prop} {Post : Pt → Array Value → Option Value → Pt → Prop} (hK : Back l R p e below s args y 3 W9 Pre Post)
    {b : Addr} {cellB : Cell} (hcell : T.heap[b]? = some cellB) (hobj : cellB.vm.isStatics = false) (hcls : s.vm.findClass C = some cellB.cls)
    {g : JFrame} (hg : g.method = m) (hsize : g.locals.size = c.maxLocals) {argsL rest : List Value} (hlen : ∀ sig, parseMethodDescriptor y.desc = some sig → argsL.length = sig.parameters.length)
    (hstack : g.stack = argsL.reverse ++ .ref b :: rest) (hW : 2 * g.monitorRoom + (rest.map fun v => v.category).sum ≤ W9) (hdg : decode c.code g.pc = .ok (.invokevirtual index, 3))
    (hpre : ∀ vm₁, s.WarmedH vm₁ → Pre ⟨T.setVm vm₁, locs, cells, slots⟩ (Value.ref b :: argsL).toArray) :
    ∃ (v : Option Value) (vm₁ : Vm) (B : Pt), s.WarmedH vm₁ ∧ Stand p l e R s m args below meth c B.U B.locs B.cells B.slots ∧ Post ⟨T.setVm vm₁, locs, cells, slots⟩ (Value.ref b :: argsL).toArray v B ∧
      ∀ target, Steps p.tables e below (B.U.setTop { g with pc := g.pc + 3, stack := v.toList ++ rest }) target → Steps p.tables e below (T.setTop g) target := by
  obtain ⟨mk, methM, hnamed, hmethM, hstM, habM⟩ := Cond.instanceMethod_spec hinst
  obtain ⟨m8, methM', cM, hn8, hmethM', -, -, -, -, -, -, hsigM⟩ := Cond.codeWith_spec hcode
  cases Option.some.inj (hn8.symm.trans hnamed)
  cases hmethM.symm.trans hmethM'
  obtain ⟨c2, r2, m2, q1, q2, q3, q4, kP, hkP, hkPi⟩ := Cond.selects_spec hsel
  cases hcls.symm.trans q1
  cases (State.methodFound?_of_named hnamed hy).symm.trans q2
  cases hnamed.symm.trans q3
  have hselP : selectMethod e.platform s.vm cellB.cls mk = .method mk := by rw [Launch.admits_selectMethod X.admits]; exact q4
  obtain ⟨vm₁, X₁, hstep₁⟩ := X.invokevirtual hexec hown hlink hnamed hmethM hstM hkP hkPi hy (a := b) (cell := cellB) hcell
    (fun z h => by rw [h] at hobj; cases hobj) hselP hmethM habM hkP hkPi (g := g) hg (argsL := argsL) (rest := rest) (hlen _ hsigM) hstack hdg
  obtain ⟨v, B, X', hpost, hsteps⟩ := hK m meth c ⟨T.setVm vm₁, locs, cells, slots⟩ { g with stack := rest } (.invokevirtual index) mk (Value.ref b :: argsL).toArray X₁ hg hsize hdg hW (X₁.named hnamed) (hpre vm₁ X₁.warmed)
  exact ⟨v, vm₁, B, X₁.warmed, X', hpost, fun target h => hstep₁ _ fun acts => by rw [doInvoke_state]; exact hsteps.trans h⟩
abbrev vx_CVW (R : Room) (s : State) (args : Array Value) (own C : String) (index : Nat) (y : MethodName) (bytes : ByteArray) (maxL : Nat) (ret : Option FieldType) (hh : List (Nat × Nat × Nat × Nat)) (ws : List Cond) (rm : Room) (mc ms n : Nat) : Prop :=
  (rm.cells = mc ∧ rm.slots = ms ∧ rm.frames + 1 ≤ R.frames ∧ 8 + (maxL + 11) + rm.locals ≤ R.locals ∧ (∀ w ∈ ws, ∀ (a' : Array Value) (U : State), s.WarmedH U.vm → w.before a' U = true) ∧ Cond.codeWith y bytes maxL ret hh ∈ ws) ∧
  (Cond.codeWith y bytes maxL ret hh).before args s = true ∧ (Cond.initialized y.cls).before args s = true ∧ (y.cls ≠ "java/lang/invoke/MethodHandle" ∧ y.cls ≠ "java/lang/invoke/VarHandle") ∧
  (∀ sig, parseMethodDescriptor y.desc = some sig → n = sig.parameters.length) ∧ (Cond.methodLink own index y).before args s = true ∧ (Cond.instanceMethod y).before args s = true ∧ (Cond.selects C y y).before args s = true
theorem vx_cwVW {own C : String} {index maxL mc ms : Nat} {y : MethodName} {bytes : ByteArray} {ret : Option FieldType} {hh : List (Nat × Nat × Nat × Nat)} {Ts ws ws' : List Cond} {rm : Room} (n : Nat) (ht : ∀ w ∈ Ts, w.before args s = true) (hT : GoodIn Ts (wsV own index C y ws)) (hw : ws = Cond.codeWith y bytes maxL ret hh :: ws') (hrc : rm.cells = mc) (hrs : rm.slots = ms)
    (hd : y.cls = C ∧ y.cls ≠ "java/lang/invoke/MethodHandle" ∧ y.cls ≠ "java/lang/invoke/VarHandle" ∧ (parseMethodDescriptor y.desc).map (fun d => d.parameters.length) = some n) (hR : rm.frames + 1 ≤ R.frames ∧ 8 + (maxL + 11) + rm.locals ≤ R.locals) :
    vx_CVW R s args own C index y bytes maxL ret hh ws rm mc ms n := by
  obtain ⟨hC, hd⟩ := hd
  subst hC
  have ok : ∀ w ∈ wsV own index y.cls y ws, w.before args s = true := fun w h => ht w (hT w h).1
  have hG : GoodIn Ts ws := fun w h => hT w (by unfold wsV; exact List.mem_append_right _ h)
  have hc : Cond.codeWith y bytes maxL ret hh ∈ ws := by rw [hw]; exact List.mem_cons_self
  refine ⟨⟨hrc, hrs, hR.1, hR.2, pay_in ht hG, hc⟩, ht _ (hG _ hc).1, ok _ (by simp [wsV]), ⟨hd.1, hd.2.1⟩, fun sig h => ?_, ok _ (by simp [wsV]), ok _ (by simp [wsV]), ok _ (by simp [wsV])⟩
  have h2 := hd.2.2
  rw [h] at h2
  exact (Option.some.inj h2).symm
theorem vx_runVW {y : MethodName} {bytes cc : ByteArray} {maxL nL mc ms n index : Nat} {ret : Option FieldType} {hh : List (Nat × Nat × Nat × Nat)} {ws : List Cond} {rm : Room} {Pc : Array Value → State → Prop} {Qc : Array Value → State → Outcome → State → Prop} {free : Addr → Prop} {Ts : List Cond} {own C : String} {b : Addr} {As rest : List Value} {g : JFrame}
    (S : CallFix p m c cc nL s args Ts own) (hM : Met l y ws rm Pc Qc mc ms free) (cw : vx_CVW R s args own C index y bytes maxL ret hh ws rm mc ms n) (hp : PreV s H C b Pc As)
    (hg : g.method = m) (hn : As.length = n) (hsize : g.locals.size = nL) (hstack : g.stack = As.reverse ++ .ref b :: rest) (hW : 2 * g.monitorRoom + (rest.map fun v => v.category).sum ≤ 8) (hdg : decode cc g.pc = .ok (.invokevirtual index, 3)) (hf : cells + mc ≤ R.cells ∧ slots + ms ≤ R.slots) :
    va_Run p l e R s m args below meth c H locs cells slots mc ms g rest (Qc (Value.ref b :: As).toArray) free := by
  obtain ⟨⟨hrc, hrs, hfr, hlo, hws, hcw⟩, hcode, hini, hy, hlen, hl, hin, hse⟩ := cw
  have hK : Back l R p e below s args y 3 8 (PreOf R mc ms Pc) (PostOf Qc mc ms free) := va_backW (hh := hh) (bytes := bytes) (maxL := maxL) (ret := ret) hM hp.1 hrc hrs hfr hlo hws hcw (fun a' U hW => word_at hW (Or.inl (by first | rfl | simp [Cond.onTables, Cond.keeps, Cond.steady])) hini)
  obtain ⟨hx, hb, hml, ho, -⟩ := S
  obtain ⟨-, ⟨cellB, hcB, hoB, hclB⟩, hPc⟩ := hp
  intro T hT X
  obtain ⟨v, vm₁, ⟨U', l2, c2, s2⟩, hW₁, X', ⟨g', mk, t, L, e1, e2, hq, h1, hL, h2, h3⟩, st⟩ := vx_callVW X hx (C := C) (hh := hh) (bytes := bytes) (maxL := maxL) (ret := ret) ho hl hin hse hcode hy hK (by rw [hT]; exact hcB) hoB hclB hg (hsize.trans hml.symm) (argsL := As) (rest := rest) (fun sig h => hn.trans (hlen sig h)) hstack hW (by rw [hb]; exact hdg)
    (fun vm₁ hW₁ => ⟨hf.1, hf.2, hPc (T.setVm vm₁) hT hW₁⟩)
  dsimp only [Pt.U, Pt.locs, Pt.cells, Pt.slots] at X' e1 e2 h1 h2 h3 st
  subst h1; subst h2; subst h3
  exact ⟨v, (T.setVm vm₁).calling g' mk (Value.ref b :: As).toArray, t, U', L, hT, X', hL, e1, e2, hq, st⟩
section
variable {y : MethodName} {bytes cc : ByteArray} {maxL nL mc ms n index : Nat} {ret : Option FieldType} {ws : List Cond} {rm : Room} {Pc : Array Value → State → Prop} {Qc : Array Value → State → Outcome → State → Prop} {XC : String → State → State → Prop} {free : Addr → Prop} {Ts : List Cond} {own C : String} {b : Addr} {As rest : List Value} {g : JFrame}
theorem vx_runVX {hh : List (Nat × Nat × Nat × Nat)} (S : CallFix p m c cc nL s args Ts own) (hM : vx_Met l y ws rm Pc Qc XC mc ms free) (cw : vx_CVW R s args own C index y bytes maxL ret hh ws rm mc ms n) (hp : PreV s H C b Pc As)
    (hg : g.method = m) (hn : As.length = n) (hsize : g.locals.size = nL) (hstack : g.stack = As.reverse ++ .ref b :: rest) (hW : 2 * g.monitorRoom + (rest.map fun v => v.category).sum ≤ 8) (hdg : decode cc g.pc = .ok (.invokevirtual index, 3)) (hf : cells + mc ≤ R.cells ∧ slots + ms ≤ R.slots) :
    vx_Run p l e R s m args below meth c H locs cells slots mc ms g rest (Qc (Value.ref b :: As).toArray) XC free := by
  obtain ⟨⟨hrc, hrs, hfr, hlo, hws, hcw⟩, hcode, hini, hy, hlen, hl, hin, hse⟩ := cw
  have hK : vx_Back l R p e below s args y 3 8 (PreOf R mc ms Pc) (PostOf Qc mc ms free) (vx_Post XC mc ms free) := vx_backW (hh := hh) (bytes := bytes) (maxL := maxL) (ret := ret) hM hp.1 hrc hrs hfr hlo hws hcw (fun a' U hW => word_at hW (Or.inl (by first | rfl | simp [Cond.onTables, Cond.keeps, Cond.steady])) hini)
  obtain ⟨hx, hb, hml, ho, -⟩ := S
  obtain ⟨-, ⟨cellB, hcB, hoB, hclB⟩, hPc⟩ := hp
  intro T hT X
  rcases vx_callVX X hx (C := C) (hh := hh) (bytes := bytes) (maxL := maxL) (ret := ret) ho hl hin hse hcode hy hK (by rw [hT]; exact hcB) hoB hclB hg (hsize.trans hml.symm) (argsL := As) (rest := rest) (fun sig h => hn.trans (hlen sig h)) hstack hW (by rw [hb]; exact hdg)
    (fun vm₁ hW₁ => ⟨hf.1, hf.2, hPc (T.setVm vm₁) hT hW₁⟩) with ⟨v, vm₁, ⟨U', l2, c2, s2⟩, hW₁, X', ⟨g', mk, t, L, e1, e2, hq, h1, hL, h2, h3⟩, st⟩ | ⟨q, vm₁, ⟨U', l2, c2, s2⟩, hW₁, X', ⟨g', mk, t, L, E, ce, e1, e2, hq, hce, hcv, hcl, h1, hL, h2, h3⟩, st⟩
  · dsimp only [Pt.U, Pt.locs, Pt.cells, Pt.slots] at X' e1 e2 h1 h2 h3 st
    subst h1; subst h2; subst h3
    exact Or.inl ⟨v, (T.setVm vm₁).calling g' mk (Value.ref b :: As).toArray, t, U', L, hT, X', hL, e1, e2, hq, st⟩
  · dsimp only [Pt.U, Pt.locs, Pt.cells, Pt.slots] at X' e1 e2 h1 h2 h3 st hcl
    subst h1; subst h2; subst h3
    exact Or.inr ⟨q, (T.setVm vm₁).calling g' mk (Value.ref b :: As).toArray, t, U', L, E, ce, hT, X', hL, e1, e2, hq, hce, hcv, vx_cls hW₁ hcl, st⟩
theorem vx_runSX {hh : List (Nat × Nat × Nat × Nat)} (S : CallFix p m c cc nL s args Ts own) (hM : vx_Met l y ws rm Pc Qc XC mc ms free) (cw : vx_CSW R s args own index y bytes maxL ret hh ws rm mc ms n) (hp : PreS s H Pc As)
    (hg : g.method = m) (hn : As.length = n) (hsize : g.locals.size = nL) (hstack : g.stack = As.reverse ++ rest) (hW : 2 * g.monitorRoom + (rest.map fun v => v.category).sum ≤ 8) (hdg : decode cc g.pc = .ok (.invokestatic index, 3)) (hf : cells + mc ≤ R.cells ∧ slots + ms ≤ R.slots) :
    vx_Run p l e R s m args below meth c H locs cells slots mc ms g rest (Qc As.toArray) XC free := by
  obtain ⟨⟨hrc, hrs, hfr, hlo, hws, hcw⟩, hcode, hini, hy, hlen, hl, hstt⟩ := cw
  have hK : vx_Back l R p e below s args y 3 8 (PreOf R mc ms Pc) (PostOf Qc mc ms free) (vx_Post XC mc ms free) := vx_backW (hh := hh) (bytes := bytes) (maxL := maxL) (ret := ret) hM hp.1 hrc hrs hfr hlo hws hcw (fun a' U hW => word_at hW (Or.inl (by first | rfl | simp [Cond.onTables, Cond.keeps, Cond.steady])) hini)
  obtain ⟨hx, hb, hml, ho, -⟩ := S
  intro T hT X
  rcases vx_callSX X hx (hh := hh) (bytes := bytes) (maxL := maxL) (ret := ret) ho hl hstt hini hcode hy hK hg (hsize.trans hml.symm) (argsL := As) (rest := rest) (fun sig h => hn.trans (hlen sig h)) hstack hW (by rw [hb]; exact hdg)
    (fun vm₁ hW₁ => ⟨hf.1, hf.2, hp.2 (T.setVm vm₁) hT hW₁⟩) with ⟨v, vm₁, ⟨U', l2, c2, s2⟩, hW₁, X', ⟨g', mk, t, L, e1, e2, hq, h1, hL, h2, h3⟩, st⟩ | ⟨q, vm₁, ⟨U', l2, c2, s2⟩, hW₁, X', ⟨g', mk, t, L, E, ce, e1, e2, hq, hce, hcv, hcl, h1, hL, h2, h3⟩, st⟩
  · dsimp only [Pt.U, Pt.locs, Pt.cells, Pt.slots] at X' e1 e2 h1 h2 h3 st
    subst h1; subst h2; subst h3
    exact Or.inl ⟨v, (T.setVm vm₁).calling g' mk As.toArray, t, U', L, hT, X', hL, e1, e2, hq, st⟩
  · dsimp only [Pt.U, Pt.locs, Pt.cells, Pt.slots] at X' e1 e2 h1 h2 h3 st hcl
    subst h1; subst h2; subst h3
    exact Or.inr ⟨q, (T.setVm vm₁).calling g' mk As.toArray, t, U', L, E, ce, hT, X', hL, e1, e2, hq, hce, hcv, vx_cls hW₁ hcl, st⟩
end
end VXH
theorem vx_ofWH {l : Launch} {y : MethodName} {ws ws' : List Cond} {rm : Room} {Pc : Array Value → State → Prop} {Qc : Array Value → State → Outcome → State → Prop} {XC : String → State → State → Prop} {mc ms : Nat} {free : Addr → Prop} {cc : ByteArray} {maxL : Nat} {ret : Option FieldType} {hh : List (Nat × Nat × Nat × Nat)}
    (hy : plainName y.cls = true) (hw : ws = Cond.codeWith y cc maxL ret hh :: ws')
    (body : ∀ p e s m args below meth c s₁, BodyLoose p l y (headSpec ws rm) cc maxL ret e s m args below meth c s₁ → c.maxLocals = maxL → Pc args s →
      W p l e (headSpec ws rm).room s m args below meth c s.heap [] 0 0 (vx_MQ below Qc XC args s mc ms free) (entryFrame m args maxL)) : vx_Met l y ws rm Pc Qc XC mc ms free := by
  refine MetFree.of_bodyS (code := cc) (maxLocals := maxL) (ret := ret) hy ?_ ?_
  · intro args s m h hn
    obtain ⟨m9, meth, c, hn9, h1, h2, h3, h4, -, h5, h6, -⟩ := Cond.codeWith_spec (atoms_spec (ws := ws) h _ (by rw [hw]; exact List.mem_cons_self))
    cases hn.symm.trans hn9
    exact ⟨meth, c, h1, h2, h3, h4, h5, h6⟩
  · intro p e s m args below meth c s₁ B hml hP _
    have hh0 : s₁.heap = s.heap := by rw [B.state]; rfl
    obtain ⟨t, a1, o, b1, b2, b3⟩ := body p e s m args below meth c s₁ B hml hP s₁ hh0 (Stand.of_body B)
    exact ⟨t, o, a1, b1, b2, b3⟩
/-! ===== END ===== -/
end
section
/-! THE PLAIN MACHINE, its pictures: cells by their number (0 the script, then those that the law makes, in the order in which they come), values with cells' numbers as references. -/
abbrev am_L : Type := List (Option Value)
abbrev am_C : Type := (Nat × vp_A) ⊕ (Nat × List Value)
abbrev am_H : Type := List am_C
/-- where cell k lies: the script at sb, the others from base on -/
def am_ad (sb base : Nat) : Nat → Nat
  | 0 => sb
  | k + 1 => base + k
def am_cv (sb base : Nat) : Value → Value
  | .ref k => .ref (am_ad sb base k)
  | v => v
def am_cx (sb base : Nat) : vp_A → vp_A
  | (n, .inr (.inr (.inr (.inr f)))) => (n, .inr (.inr (.inr (.inr (fun i => (f i).map (am_ad sb base))))))
  | x => x
theorem am_cv_cat (sb base : Nat) (v : Value) : (am_cv sb base v).category = v.category := by cases v <;> rfl
theorem am_ad_inj {sb base : Nat} (h : sb < base) {i j : Nat} (e : am_ad sb base i = am_ad sb base j) : i = j := by
  cases i <;> cases j <;> simp only [am_ad] at e <;> omega
theorem am_ad_ge {sb base k : Nat} : base ≤ am_ad sb base (k + 1) := Nat.le_add_right _ _
/-- what stands at an address -/
def am_at (D : va_G) (cl : List vw_C) (cA : Nat → ClassId) (sb base : Nat) (U : State) (H : Heap) (a : Nat) : am_C → Prop
  | .inl q => (q.1 = 99 → ∃ scr : Cell, H[a]? = some scr ∧ U.isArrayOf scr .int ∧ scr.vm ≠ .unknown ∧ scr.slots.size = q.2.1 ∧ ∃ xs : Nat → Int32, q.2.2 = .inl xs ∧ ∀ j : Nat, j < q.2.1 → scr.slots[j]? = some (.int (xs j))) ∧
    (q.1 ≠ 99 → (q.1 = 98 ∧ a < H.size) ∨ H[a]? = some (vp_cell (cA q.1) (am_cx sb base q.2)))
  | .inr q => ∃ r : vw_C, cl[q.1]? = some r ∧ t_OB a (D.1 q.1) r.2.2 (D.2 q.1) H (vp_V (q.2.map (am_cv sb base)))
/-- the heap H holds the cells h -/
def am_R (D : va_G) (cl : List vw_C) (cA : Nat → ClassId) (sb base : Nat) (U : State) (h : am_H) (H : Heap) : Prop :=
  sb < base ∧ H.size + 1 = base + h.length ∧ (∃ x : vp_A, h[0]? = some (.inl (99, x))) ∧ ∀ (k : Nat) (c : am_C), h[k]? = some c → am_at D cl cA sb base U H (am_ad sb base k) c
/-- the word that arrays of arrays of a kind are known -/
theorem am_AOA_spec {t : FieldType} {s : State} (h : (Jvm.Cond.arrayOver (.array t)).before #[] s = true) :
    ∃ comp c k, s.vm.findClass (FieldType.array t).toString = some comp ∧ (s.vm.classes.findIdx? fun (x : Class) => match x.kind with | .array component _ => component == comp | _ => false) = some c ∧ s.vm.classes[c]? = some k ∧ k.kind = .array comp (.array t) ∧ s.vm.findClass ("[" ++ (FieldType.array t).toString) = some c := by
  unfold Cond.before at h
  simp only [Cond.holds, Cond.value, beq_iff_eq] at h
  cases hc : s.vm.findClass (FieldType.array t).toString with
  | none => simp [hc] at h
  | some comp =>
    simp only [hc, Option.bind_some, Option.bind_eq_some_iff, Option.map_eq_some_iff] at h
    obtain ⟨c, h1, k, h2, h3⟩ := h
    cases hk : k.kind with
    | array cp ty =>
      rw [hk] at h3
      simp only [Bool.and_eq_true, decide_eq_true_eq] at h3
      obtain ⟨h4, h5⟩ := h3
      have h6 := Array.findIdx?_eq_some_iff_getElem.mp h1
      obtain ⟨q1, q2, -⟩ := h6
      have h7 : s.vm.classes[c] = k := Option.some.inj ((Array.getElem?_eq_getElem q1).symm.trans h2)
      rw [h7, hk] at q2
      have q3 : cp = comp := eq_of_beq q2
      subst q3; subst h4
      exact ⟨cp, c, k, rfl, h1, h2, hk, h5⟩
    | _ => rw [hk] at h3; cases h3
theorem am_AOA_moved {t : FieldType} {u U : State} (hvm : u.vm.Alike U.vm) (h : (Jvm.Cond.arrayOver (.array t)).before #[] u = true) : (Jvm.Cond.arrayOver (.array t)).before #[] U = true := by
  obtain ⟨comp, c, k, h1, h2, h3, h4, h5⟩ := am_AOA_spec h
  obtain ⟨k', hk', he⟩ := hvm.2.2 _ _ h3
  have hi : (U.vm.classes.findIdx? fun (x : Class) => match x.kind with | .array component _ => component == comp | _ => false) = some c := by
    refine (va_idx_bare U.vm comp).symm.trans ?_
    first | rw [hvm.bare_eq] | rw [← hvm.bare_eq]
    exact (va_idx_bare u.vm comp).trans h2
  have hkind : k'.kind = .array comp (.array t) := by rw [he]; exact h4
  have f1 : U.vm.findClass (FieldType.array t).toString = some comp := by rw [hvm.findClass]; exact h1
  have f2 : U.vm.findClass ("[" ++ (FieldType.array t).toString) = some c := by rw [hvm.findClass]; exact h5
  unfold Cond.before
  simp only [Cond.holds, Cond.value, f1, Option.bind_some, beq_iff_eq]
  rw [Option.bind_eq_some_iff]
  refine ⟨c, hi, ?_⟩
  simp [hk', hkind, f2]
/-- the classes and the kinds of arrays, as the tables have them; nest mates' links -/
def am_K (D : va_G) (cl : List vw_C) (cA : Nat → ClassId) (tys : List FieldType) (U : State) : Prop :=
  (∀ (c : Nat) (q : vw_C), cl[c]? = some q → u_Kn U q.1 q.2.1 q.2.2 (D.1 c) (D.2 c)) ∧ (∀ (t : Nat) (ty : FieldType), tys[t]? = some ty → am_on t = true → ArrOfT U (cA t) ty ∧ va_RA U (cA t) ty) ∧
  (∀ q ∈ am_nst, va_Nw (.methodLinkNest q.1 q.2.1 q.2.2.1 q.2.2.2) U) ∧ va_AO "TraceAligner$Trace" U ∧ (Jvm.Cond.arrayOver (.array .int)).before #[] U = true
theorem am_K.moved {D : va_G} {cl : List vw_C} {cA : Nat → ClassId} {tys : List FieldType} {u U : State} (hW : u.WarmedH U.vm) (h : am_K D cl cA tys u) : am_K D cl cA tys U :=
  ⟨fun c q hq => u_Kn_moved hW.alike (h.1 c q hq), fun t ty ht ho => ⟨arrOfT_moved hW.alike (h.2.1 t ty ht ho).1, (h.2.1 t ty ht ho).2.moved hW.alike⟩, fun q hq => va_Nw.warmM hW (h.2.2.1 q hq), va_AO.moved hW.alike h.2.2.2.1, am_AOA_moved hW.alike h.2.2.2.2⟩
section AMR
variable {D : va_G} {cl : List vw_C} {cA : Nat → ClassId} {sb base : Nat} {u U : State} {h : am_H} {H H1 : Heap}
theorem am_at.kept {a : Nat} {c : am_C} (hq : H1[a]? = H[a]?) (h : am_at D cl cA sb base U H a c) : am_at D cl cA sb base U H1 a c := by
  cases c with
  | inl q =>
    refine ⟨fun ht => ?_, fun ht => (h.2 ht).imp (fun z => ⟨z.1, (Array.getElem?_eq_some_iff.mp (hq.trans (Array.getElem?_eq_getElem z.2))).1⟩) (fun z => hq.trans z)⟩
    obtain ⟨scr, h1, h2⟩ := h.1 ht
    exact ⟨scr, hq.trans h1, h2⟩
  | inr q =>
    obtain ⟨r, h1, h2⟩ := h
    exact ⟨r, h1, h2.kept hq⟩
theorem am_at.moved {a : Nat} {c : am_C} (hvm : u.vm.Alike U.vm) (h : am_at D cl cA sb base u H a c) : am_at D cl cA sb base U H a c := by
  cases c with
  | inl q =>
    refine ⟨fun ht => ?_, h.2⟩
    obtain ⟨scr, h1, h2, h3⟩ := h.1 ht
    exact ⟨scr, h1, State.isArrayOf_alike hvm h2, h3⟩
  | inr q => exact h
theorem am_R.moved (hvm : u.vm.Alike U.vm) (R : am_R D cl cA sb base u h H) : am_R D cl cA sb base U h H :=
  ⟨R.1, R.2.1, R.2.2.1, fun k c hk => (R.2.2.2 k c hk).moved hvm⟩
theorem am_R.lt (R : am_R D cl cA sb base U h H) {k : Nat} {c : am_C} (hk : h[k]? = some c) : am_ad sb base k < H.size := by
  have h1 := R.2.2.2 k c hk
  cases c with
  | inl q =>
    by_cases e : q.1 = 99
    · obtain ⟨scr, h2, -⟩ := h1.1 e
      exact (Array.getElem?_eq_some_iff.mp h2).1
    · exact (h1.2 e).elim (fun z => z.2) (fun z => (Array.getElem?_eq_some_iff.mp z).1)
  | inr q =>
    obtain ⟨r, -, cell, h2, -⟩ := h1
    exact (Array.getElem?_eq_some_iff.mp h2).1
theorem am_R.pos (R : am_R D cl cA sb base U h H) : 0 < h.length := by
  obtain ⟨x, hx⟩ := R.2.2.1
  exact (List.getElem?_eq_some_iff.mp hx).1
/-- one cell anew -/
theorem am_R.set (R : am_R D cl cA sb base U h H) {k : Nat} {c c1 : am_C} (hk : h[k]? = some c) (hz : H1.size = H.size) (ho : ∀ q, q ≠ am_ad sb base k → H1[q]? = H[q]?) (hk0 : k ≠ 0) (hc : am_at D cl cA sb base U H1 (am_ad sb base k) c1) : am_R D cl cA sb base U (h.set k c1) H1 := by
  refine ⟨R.1, by rw [hz, List.length_set]; exact R.2.1, ?_, fun j d hj => ?_⟩
  · obtain ⟨x, hx⟩ := R.2.2.1
    exact ⟨x, by rw [List.getElem?_set_ne hk0]; exact hx⟩
  · by_cases e : k = j
    · subst e
      rw [List.getElem?_set_self (List.getElem?_eq_some_iff.mp hk).1] at hj
      cases hj
      exact hc
    · rw [List.getElem?_set_ne e] at hj
      exact (R.2.2.2 j d hj).kept (ho _ fun q => e (am_ad_inj R.1 q).symm)
/-- a new cell -/
theorem am_R.push (R : am_R D cl cA sb base U h H) {c1 : am_C} (hz : H1.size = H.size + 1) (ho : ∀ q, q < H.size → H1[q]? = H[q]?) (hc : am_at D cl cA sb base U H1 H.size c1) : am_R D cl cA sb base U (h ++ [c1]) H1 := by
  have hp := R.pos
  refine ⟨R.1, by rw [hz, List.length_append, List.length_singleton, R.2.1]; omega, ?_, fun j d hj => ?_⟩
  · obtain ⟨x, hx⟩ := R.2.2.1
    exact ⟨x, by rw [List.getElem?_append_left hp]; exact hx⟩
  · by_cases e : j < h.length
    · rw [List.getElem?_append_left e] at hj
      exact (R.2.2.2 j d hj).kept (ho _ (R.lt hj))
    · rw [List.getElem?_append_right (by omega)] at hj
      have hz : j - h.length < 1 := (List.getElem?_eq_some_iff.mp hj).1
      rw [show j - h.length = 0 by omega] at hj
      cases hj
      have h2 := R.2.1
      have : am_ad sb base j = H.size := by
        obtain ⟨i, rfl⟩ : ∃ i, j = i + 1 := ⟨j - 1, by omega⟩
        show base + i = H.size
        omega
      rw [this]
      exact hc
theorem am_R.next (R : am_R D cl cA sb base U h H) : am_ad sb base h.length = H.size := by
  have hp := R.pos
  have h2 := R.2.1
  obtain ⟨i, hi⟩ : ∃ i, h.length = i + 1 := ⟨h.length - 1, by omega⟩
  rw [hi]
  show base + i = H.size
  omega
/-- a cell of which nothing is said -/
abbrev am_unk : am_C := .inl (98, 0, .inl fun _ => 0)
theorem am_R.grow (R : am_R D cl cA sb base U h H) (hz : H.size ≤ H1.size) (ho : ∀ q, q < H.size → H1[q]? = H[q]?) : am_R D cl cA sb base U (h ++ List.replicate (H1.size - H.size) am_unk) H1 := by
  have hp := R.pos
  have h2 := R.2.1
  refine ⟨R.1, by rw [List.length_append, List.length_replicate]; omega, ?_, fun j d hj => ?_⟩
  · obtain ⟨x, hx⟩ := R.2.2.1
    exact ⟨x, by rw [List.getElem?_append_left hp]; exact hx⟩
  · by_cases e : j < h.length
    · rw [List.getElem?_append_left e] at hj
      exact (R.2.2.2 j d hj).kept (ho _ (R.lt hj))
    · rw [List.getElem?_append_right (by omega), List.getElem?_replicate] at hj
      split at hj
      · rename_i hlt
        cases hj
        refine ⟨fun q => absurd q (by decide), fun _ => Or.inl ⟨rfl, ?_⟩⟩
        obtain ⟨i, rfl⟩ : ∃ i, j = i + 1 := ⟨j - 1, by omega⟩
        show base + i < H1.size
        omega
      · cases hj
end AMR
/-! locals -/
def am_lp (g : Value → Value) : Nat → am_L → List (Nat × Value)
  | _, [] => []
  | k, none :: t => am_lp g (k + 1) t
  | k, some v :: t => (k, g v) :: am_lp g (k + 1) t
theorem am_lp_mem {g : Value → Value} : ∀ {lo : am_L} {k : Nat} {q : Nat × Value}, q ∈ am_lp g k lo ↔ k ≤ q.1 ∧ ∃ v, lo[q.1 - k]? = some (some v) ∧ q.2 = g v
  | [], k, q => by simp [am_lp]
  | none :: t, k, q => by
    rw [am_lp, am_lp_mem]
    constructor
    · rintro ⟨h1, v, h2, h3⟩
      refine ⟨by omega, v, ?_, h3⟩
      rw [show q.1 - k = (q.1 - (k + 1)) + 1 by omega, List.getElem?_cons_succ]
      exact h2
    · rintro ⟨h1, v, h2, h3⟩
      by_cases e : q.1 = k
      · rw [show q.1 - k = 0 by omega] at h2
        cases h2
      · rw [show q.1 - k = (q.1 - (k + 1)) + 1 by omega, List.getElem?_cons_succ] at h2
        exact ⟨by omega, v, h2, h3⟩
  | some w :: t, k, q => by
    rw [am_lp, List.mem_cons, am_lp_mem]
    constructor
    · rintro (rfl | ⟨h1, v, h2, h3⟩)
      · exact ⟨Nat.le_refl _, w, by simp, rfl⟩
      · refine ⟨by omega, v, ?_, h3⟩
        rw [show q.1 - k = (q.1 - (k + 1)) + 1 by omega, List.getElem?_cons_succ]
        exact h2
    · rintro ⟨h1, v, h2, h3⟩
      by_cases e : q.1 = k
      · rw [show q.1 - k = 0 by omega] at h2
        cases h2
        left
        exact Prod.ext e h3
      · right
        rw [show q.1 - k = (q.1 - (k + 1)) + 1 by omega, List.getElem?_cons_succ] at h2
        exact ⟨by omega, v, h2, h3⟩
/-- the frame's locals hold lo -/
def am_LR (g : Value → Value) (ls : Array Slot) (nL : Nat) (lo : am_L) : Prop := lo.length ≤ nL ∧ lv_has ls nL (am_lp g 0 lo)
theorem am_LR.at {g : Value → Value} {ls : Array Slot} {nL : Nat} {lo : am_L} (h : am_LR g ls nL lo) {i : Nat} {v : Value} (hi : lo[i]? = some (some v)) : ls[i]? = some (.val (g v)) :=
  h.2.2.2 (i, g v) (am_lp_mem.mpr ⟨Nat.zero_le _, v, hi, rfl⟩)
def am_c2 (lo : am_L) : Nat → Bool
  | 0 => false
  | j + 1 => match lo[j]? with
    | some (some (.long _)) => true
    | some (some (.double _)) => true
    | _ => false
theorem am_c2_f {lo : am_L} {i j : Nat} {v : Value} (h : am_c2 lo i = false) (hj : lo[j]? = some (some v)) (e : j + 1 = i) : v.category = 1 := by
  subst e
  cases v <;> first | rfl | (simp [am_c2, hj] at h)
def am_st1 (lo : am_L) (i : Nat) (v : Value) : Option am_L := match lo[i]? with
  | none => none
  | some _ => bif am_c2 lo i then none else some (lo.set i (some v))
def am_st2 (lo : am_L) (i : Nat) (v : Value) : Option am_L := match lo[i + 1]? with
  | none => none
  | some _ => bif am_c2 lo i then none else some ((lo.set i (some v)).set (i + 1) none)
theorem am_st1_ok {g : Value → Value} (hg : ∀ v, (g v).category = v.category) {ls : Array Slot} {nL : Nat} {lo lo' : am_L} {i : Nat} {v : Value} (h : am_LR g ls nL lo) (hs : am_st1 lo i v = some lo') (hc : v.category = 1) :
    i < nL ∧ lo'.length ≤ nL ∧ ∀ q ∈ am_lp g 0 lo', q ∈ (i, g v) :: (am_lp g 0 lo).filter (fun q => !(q.1 == i) && !(q.1 + 1 == i && q.2.category == 2)) := by
  unfold am_st1 at hs
  split at hs
  · cases hs
  · rename_i x hx
    have hlt := (List.getElem?_eq_some_iff.mp hx).1
    cases hb : am_c2 lo i <;> rw [hb] at hs <;> simp only [cond_true, cond_false] at hs
    · cases hs
      refine ⟨Nat.lt_of_lt_of_le hlt h.1, by rw [List.length_set]; exact h.1, fun q hq => ?_⟩
      obtain ⟨-, w, h2, h3⟩ := am_lp_mem.mp hq
      rw [Nat.sub_zero] at h2
      by_cases e : i = q.1
      · rw [← e, List.getElem?_set_self hlt] at h2
        cases h2
        exact List.mem_cons.mpr (Or.inl (Prod.ext e.symm h3))
      · rw [List.getElem?_set_ne e] at h2
        refine List.mem_cons_of_mem _ (List.mem_filter.mpr ⟨am_lp_mem.mpr ⟨Nat.zero_le _, w, h2, h3⟩, ?_⟩)
        have h4 : (q.1 == i) = false := by simp; omega
        rw [h4]
        by_cases e2 : q.1 + 1 = i
        · have := am_c2_f hb h2 e2
          rw [h3, hg, this]; simp
        · simp [e2]
    · cases hs
theorem am_st2_ok {g : Value → Value} (hg : ∀ v, (g v).category = v.category) {ls : Array Slot} {nL : Nat} {lo lo' : am_L} {i : Nat} {v : Value} (h : am_LR g ls nL lo) (hs : am_st2 lo i v = some lo') :
    i + 1 < nL ∧ lo'.length ≤ nL ∧ ∀ q ∈ am_lp g 0 lo', q ∈ (i, g v) :: (am_lp g 0 lo).filter (fun q => !(q.1 == i) && (!(q.1 == i + 1) && !(q.1 + 1 == i && q.2.category == 2))) := by
  unfold am_st2 at hs
  split at hs
  · cases hs
  · rename_i x hx
    have hlt := (List.getElem?_eq_some_iff.mp hx).1
    cases hb : am_c2 lo i <;> rw [hb] at hs <;> simp only [cond_true, cond_false] at hs
    · cases hs
      refine ⟨Nat.lt_of_lt_of_le hlt h.1, by rw [List.length_set, List.length_set]; exact h.1, fun q hq => ?_⟩
      obtain ⟨-, w, h2, h3⟩ := am_lp_mem.mp hq
      rw [Nat.sub_zero] at h2
      by_cases e1 : i + 1 = q.1
      · rw [← e1, List.getElem?_set_self (by rw [List.length_set]; exact hlt)] at h2
        cases h2
      rw [List.getElem?_set_ne e1] at h2
      by_cases e : i = q.1
      · rw [← e, List.getElem?_set_self (by omega)] at h2
        cases h2
        exact List.mem_cons.mpr (Or.inl (Prod.ext e.symm h3))
      · rw [List.getElem?_set_ne e] at h2
        refine List.mem_cons_of_mem _ (List.mem_filter.mpr ⟨am_lp_mem.mpr ⟨Nat.zero_le _, w, h2, h3⟩, ?_⟩)
        have h4 : (q.1 == i) = false := by simp; omega
        have h5 : (q.1 == i + 1) = false := by simp; omega
        rw [h4, h5]
        by_cases e2 : q.1 + 1 = i
        · have := am_c2_f hb h2 e2
          rw [h3, hg, this]; simp
        · simp [e2]
    · cases hs
/-- a method's locals at its entry -/
def am_lo : List Value → am_L
  | [] => []
  | .long x :: t => some (.long x) :: none :: am_lo t
  | .double x :: t => some (.double x) :: none :: am_lo t
  | v :: t => some v :: am_lo t
def am_lo0 (vs : List Value) (n : Nat) : am_L := am_lo vs ++ List.replicate (n - (am_lo vs).length) none
end
section
/-! THE PLAIN MACHINE, its steps. A row: place, instruction, next place, a branch's target, a constant. -/
abbrev am_Row : Type := Nat × Instr × Nat × Nat × Value
def am_len : Instr → Nat
  | .bipush _ => 2 | .ldc _ => 2 | .newarray _ => 2
  | .iload _ => 2 | .aload _ => 2 | .lload _ => 2 | .dload _ => 2 | .istore _ => 2 | .astore _ => 2 | .lstore _ => 2 | .dstore _ => 2
  | .sipush _ => 3 | .ldc_w _ => 3 | .ldc2_w _ => 3 | .iinc _ _ => 3 | .goto _ => 3 | .ifCond _ _ => 3 | .if_icmp _ _ => 3
  | .getfield _ => 3 | .putfield _ => 3 | .getstatic _ => 3 | .invokevirtual _ => 3 | .invokestatic _ => 3 | .invokespecial _ => 3 | .new _ => 3 | .anewarray _ => 3
  | .multianewarray _ _ => 4
  | _ => 1
def am_okK (own : String) (big : List Jvm.Cond) (r : am_Row) : Bool := match r.2.1 with
  | .iconst n => decide (r.2.2.2.2 = .int (Int32.ofInt n))
  | .bipush n => decide (r.2.2.2.2 = .int (Int8.ofInt n).toInt32)
  | .sipush n => decide (r.2.2.2.2 = .int (Int16.ofInt n).toInt32)
  | .lconst n => decide (r.2.2.2.2 = .long (Int64.ofNat (n : Nat)))
  | .dconst n => decide (r.2.2.2.2 = .double (if n = 0 then FP.dconst0 else FP.dconst1))
  | .iinc _ n => decide (r.2.2.2.2 = .int (Int32.ofInt n))
  | .ldc i => match r.2.2.2.2 with | .int v => decide (Jvm.Cond.constant own i v ∈ big) | _ => true
  | .ldc_w i => match r.2.2.2.2 with | .int v => decide (Jvm.Cond.constant own i v ∈ big) | _ => true
  | .ldc2_w i => match r.2.2.2.2 with | .long v => decide (Jvm.Cond.constantLong own i v ∈ big) | .double v => decide (Jvm.Cond.constantDouble own i v ∈ big) | _ => true
  | .goto off => decide ((r.1 : Int) + off = (r.2.2.2.1 : Int))
  | .ifCond _ off => decide ((r.1 : Int) + off = (r.2.2.2.1 : Int))
  | .if_icmp _ off => decide ((r.1 : Int) + off = (r.2.2.2.1 : Int))
  | _ => true
def am_okRow (own : String) (cc : ByteArray) (big : List Jvm.Cond) (r : am_Row) : Prop := decode cc r.1 = .ok (r.2.1, am_len r.2.1) ∧ r.2.2.1 = r.1 + am_len r.2.1 ∧ am_okK own big r = true
def am_find : List am_Row → Nat → Option am_Row
  | [], _ => none
  | r :: t, pc => bif Nat.beq r.1 pc then some r else am_find t pc
theorem am_find_ok : ∀ {tb : List am_Row} {pc : Nat} {r : am_Row}, am_find tb pc = some r → r ∈ tb ∧ r.1 = pc
  | [], _, _, h => nomatch h
  | r0 :: t, pc, r, h => by
    unfold am_find at h
    cases e : Nat.beq r0.1 pc <;> rw [e] at h <;> simp only [cond_true, cond_false] at h
    · have := am_find_ok h
      exact ⟨List.mem_cons_of_mem _ this.1, this.2⟩
    · cases h
      exact ⟨List.mem_cons_self, Nat.eq_of_beq_eq_true e⟩
def am_isk : Nat → Value → Bool
  | 0, .int _ => true
  | 1, .ref _ => true
  | 1, .null => true
  | 2, .long _ => true
  | 3, .double _ => true
  | _, _ => false
def am_ld (kd : Nat) (lo : am_L) (i : Nat) : Option Value := match lo[i]? with
  | some (some v) => bif am_isk kd v then some v else none
  | _ => none
theorem am_ld_ok {kd : Nat} {lo : am_L} {i : Nat} {v : Value} (h : am_ld kd lo i = some v) : lo[i]? = some (some v) ∧ am_isk kd v = true := by
  unfold am_ld at h
  split at h
  · rename_i w hw
    cases e : am_isk kd w <;> rw [e] at h <;> simp only [cond_true, cond_false] at h
    · cases h
    · cases h
      exact ⟨hw, e⟩
  · cases h
theorem am_isk0 {v : Value} (h : am_isk 0 v = true) : ∃ x, v = .int x := by cases v <;> first | exact ⟨_, rfl⟩ | exact absurd h (by simp [am_isk])
theorem am_isk1 {v : Value} (h : am_isk 1 v = true) : v = .null ∨ ∃ x, v = .ref x := by cases v <;> first | exact Or.inl rfl | exact Or.inr ⟨_, rfl⟩ | exact absurd h (by simp [am_isk])
theorem am_isk2 {v : Value} (h : am_isk 2 v = true) : ∃ x, v = .long x := by cases v <;> first | exact ⟨_, rfl⟩ | exact absurd h (by simp [am_isk])
theorem am_isk3 {v : Value} (h : am_isk 3 v = true) : ∃ x, v = .double x := by cases v <;> first | exact ⟨_, rfl⟩ | exact absurd h (by simp [am_isk])
/-- instructions that push one value -/
def am_push (r : am_Row) (lo : am_L) : Option Value := match r.2.1 with
  | .iconst _ => some r.2.2.2.2
  | .bipush _ => some r.2.2.2.2
  | .sipush _ => some r.2.2.2.2
  | .lconst _ => some r.2.2.2.2
  | .dconst _ => some r.2.2.2.2
  | .ldc _ => bif am_isk 0 r.2.2.2.2 then some r.2.2.2.2 else none
  | .ldc_w _ => bif am_isk 0 r.2.2.2.2 then some r.2.2.2.2 else none
  | .ldc2_w _ => bif am_isk 2 r.2.2.2.2 || am_isk 3 r.2.2.2.2 then some r.2.2.2.2 else none
  | .iload_n k => am_ld 0 lo k
  | .iload k => am_ld 0 lo k
  | .aload_n k => am_ld 1 lo k
  | .aload k => am_ld 1 lo k
  | .lload_n k => am_ld 2 lo k
  | .lload k => am_ld 2 lo k
  | .dload_n k => am_ld 3 lo k
  | .dload k => am_ld 3 lo k
  | _ => none
/-- of two values that lie on top (the upper first), one -/
def am_bin : Instr → Value → Value → Option Value
  | .iadd, .int y, .int x => some (.int (x + y))
  | .isub, .int y, .int x => some (.int (x - y))
  | .imul, .int y, .int x => some (.int (x * y))
  | .iand, .int y, .int x => some (.int (x &&& y))
  | .ior, .int y, .int x => some (.int (x ||| y))
  | .ixor, .int y, .int x => some (.int (x ^^^ y))
  | .ishl, .int y, .int x => some (.int (x <<< (y &&& 31)))
  | .ishr, .int y, .int x => some (.int (x >>> (y &&& 31)))
  | .iushr, .int y, .int x => some (.int (x.toUInt32 >>> (y.toUInt32 &&& Int32.toUInt32 31)).toInt32)
  | .ladd, .long y, .long x => some (.long (x + y))
  | .lmul, .long y, .long x => some (.long (x * y))
  | .lcmp, .long y, .long x => some (.int (lg_cmp x y))
  | .dcmp op, .double y, .double x => some (.int (Op.cmpValue (FP.dcmp x y) op))
  | .idiv, .int y, .int x => if y = 0 then none else some (.int (x / y))
  | .irem, .int y, .int x => if y = 0 then none else some (.int (x - x / y * y))
  | _, _, _ => none
def am_un : Instr → Value → Option Value
  | .i2l, .int x => some (.long x.toInt64)
  | .l2i, .long x => some (.int x.toInt32)
  | .i2d, .int x => some (.double (FP.i2d x))
  | .ineg, .int x => some (.int (-x))
  | _, _ => none
/-- the stack by itself -/
def am_stk : Instr → List Value → Option (List Value)
  | .dup, .int x :: t => some (.int x :: .int x :: t)
  | .dup, .ref x :: t => some (.ref x :: .ref x :: t)
  | .dup, .null :: t => some (.null :: .null :: t)
  | .pop, .int _ :: t => some t
  | .pop, .ref _ :: t => some t
  | .pop, .null :: t => some t
  | .dup2, .int x :: .int y :: t => some (.int x :: .int y :: .int x :: .int y :: t)
  | .dup2, .int x :: .ref y :: t => some (.int x :: .ref y :: .int x :: .ref y :: t)
  | i, y :: x :: t => match am_bin i y x with
    | some v => some (v :: t)
    | none => match am_un i y with
      | some v => some (v :: x :: t)
      | none => none
  | i, y :: t => match am_un i y with
    | some v => some (v :: t)
    | none => none
  | _, _ => none
def am_sto : Instr → List Value → am_L → Option (am_L × List Value)
  | .istore_n k, .int x :: t, lo => (am_st1 lo k (.int x)).map (·, t)
  | .istore k, .int x :: t, lo => (am_st1 lo k (.int x)).map (·, t)
  | .astore_n k, .ref x :: t, lo => (am_st1 lo k (.ref x)).map (·, t)
  | .astore k, .ref x :: t, lo => (am_st1 lo k (.ref x)).map (·, t)
  | .lstore_n k, .long x :: t, lo => (am_st2 lo k (.long x)).map (·, t)
  | .lstore k, .long x :: t, lo => (am_st2 lo k (.long x)).map (·, t)
  | .dstore_n k, .double x :: t, lo => (am_st2 lo k (.double x)).map (·, t)
  | .dstore k, .double x :: t, lo => (am_st2 lo k (.double x)).map (·, t)
  | _, _, _ => none
section AMW
variable {D : va_G} {cl : List vw_C} {cA : Nat → ClassId} {sb base : Nat} {p : Program} {l : Launch} {e : Env} {R : Room} {s : State} {m : MethodId} {args : Array Value} {below : List Frame} {meth : Method} {c : Code} {nL : Nat} {Q : State → Prop}
/-- from this frame and these cells the machine comes to a state with Q; rc cells of rs slots may still be made -/
def am_W (D : va_G) (cl : List vw_C) (cA : Nat → ClassId) (sb base : Nat) (p : Program) (l : Launch) (e : Env) (R : Room) (s : State) (m : MethodId) (args : Array Value) (below : List Frame) (meth : Method) (c : Code) (nL : Nat) (Q : State → Prop) (pc : Nat) (lo : am_L) (st : List Value) (h : am_H) (rc rs : Nat) : Prop :=
  ∀ (H : Heap) (locs : List Loc) (cells slots : Nat) (ls : Array Slot), am_R D cl cA sb base s h H → va_S (fun q => base ≤ q) s.heap H locs → cells + rc ≤ R.cells → slots + rs ≤ R.slots → am_LR (am_cv sb base) ls nL lo →
    W p l e R s m args below meth c H locs cells slots Q (F0 m pc ls (st.map (am_cv sb base)))
variable {cc : ByteArray} {own : String} {big : List Jvm.Cond} {r : am_Row} {lo lo' : am_L} {st st' : List Value} {h : am_H} {rc rs : Nat} {v : Value}
theorem am_push_ok (hx : p.tables.exec = Jvm.exec) (hb : c.code = cc) (hown : s.vm.findClass own = some m.cls) (hts : ∀ w ∈ big, w.before args s = true) (hr : am_okRow own cc big r) (hp : am_push r lo = some v)
    (k : am_W D cl cA sb base p l e R s m args below meth c nL Q r.2.2.1 lo (v :: st) h rc rs) : am_W D cl cA sb base p l e R s m args below meth c nL Q r.1 lo st h rc rs := by
  obtain ⟨pc, i, nx, tg, kv⟩ := r
  obtain ⟨hd, hn, hk⟩ := hr
  dsimp only at hd hn hp k ⊢
  subst hn
  intro H locs cells slots ls hR hS h1 h2 hl
  have K := k H locs cells slots ls hR hS h1 h2 hl
  clear k
  unfold am_push at hp
  dsimp only at hp
  split at hp
  all_goals first
    | (cases hp; done)
    | skip
  · cases hp
    have hk := of_decide_eq_true hk
    dsimp only at hk; subst hk
    exact lv_iconst hx hb hd rfl K
  · cases hp
    have hk := of_decide_eq_true hk
    dsimp only at hk; subst hk
    exact lv_bipush hx hb hd rfl K
  · cases hp
    have hk := of_decide_eq_true hk
    dsimp only at hk; subst hk
    exact lv_sipush hx hb hd rfl K
  · cases hp
    have hk := of_decide_eq_true hk
    dsimp only at hk; subst hk
    exact lv_lconst hx hb hd rfl K
  · rename_i n
    cases hp
    have hk := of_decide_eq_true hk
    dsimp only at hk; subst hk
    by_cases e : n = 0
    · subst e
      exact lv_dconst0 hx hb hd K
    · have e1 : n = 1 := by omega
      subst e1
      exact lv_dconst1 hx hb hd K
  · cases e : am_isk 0 kv <;> rw [e] at hp <;> simp only [cond_true, cond_false] at hp
    · cases hp
    · cases hp
      obtain ⟨x, rfl⟩ := am_isk0 e
      exact lv_ldc hx hb hown (hts _ (of_decide_eq_true hk)) hd K
  · cases e : am_isk 0 kv <;> rw [e] at hp <;> simp only [cond_true, cond_false] at hp
    · cases hp
    · cases hp
      obtain ⟨x, rfl⟩ := am_isk0 e
      exact lv_ldcw hx hb hown (hts _ (of_decide_eq_true hk)) hd K
  · cases e : (am_isk 2 kv || am_isk 3 kv) <;> rw [e] at hp <;> simp only [cond_true, cond_false] at hp
    · cases hp
    · cases hp
      rcases Bool.or_eq_true_iff.mp e with e | e
      · obtain ⟨x, rfl⟩ := am_isk2 e
        exact lv_ldc2 hx hb hown (hts _ (of_decide_eq_true hk)) hd K
      · obtain ⟨x, rfl⟩ := am_isk3 e
        exact lv_ldc2d hx hb hown (hts _ (of_decide_eq_true hk)) hd K
  · obtain ⟨e1, e2⟩ := am_ld_ok hp
    obtain ⟨x, rfl⟩ := am_isk0 e2
    exact lv_iload_n hx hb hd rfl (hl.at e1) K
  · obtain ⟨e1, e2⟩ := am_ld_ok hp
    obtain ⟨x, rfl⟩ := am_isk0 e2
    exact lv_iload hx hb hd (hl.at e1) K
  · obtain ⟨e1, e2⟩ := am_ld_ok hp
    rcases am_isk1 e2 with rfl | ⟨x, rfl⟩
    · exact lv_aload_nN hx hb hd rfl (hl.at e1) K
    · exact lv_aload_n hx hb hd rfl (hl.at e1) K
  · obtain ⟨e1, e2⟩ := am_ld_ok hp
    rcases am_isk1 e2 with rfl | ⟨x, rfl⟩
    · exact lv_aloadN hx hb hd (hl.at e1) K
    · exact lv_aload hx hb hd (hl.at e1) K
  · obtain ⟨e1, e2⟩ := am_ld_ok hp
    obtain ⟨x, rfl⟩ := am_isk2 e2
    exact lv_lload_n hx hb hd rfl (hl.at e1) K
  · obtain ⟨e1, e2⟩ := am_ld_ok hp
    obtain ⟨x, rfl⟩ := am_isk2 e2
    exact lv_lload hx hb hd (hl.at e1) K
  · obtain ⟨e1, e2⟩ := am_ld_ok hp
    obtain ⟨x, rfl⟩ := am_isk3 e2
    exact lv_dload_n hx hb hd rfl (hl.at e1) K
  · obtain ⟨e1, e2⟩ := am_ld_ok hp
    obtain ⟨x, rfl⟩ := am_isk3 e2
    exact lv_dload hx hb hd (hl.at e1) K
theorem am_bin_ok (hx : p.tables.exec = Jvm.exec) (hb : c.code = cc) (hr : am_okRow own cc big r) {y x : Value} (hp : am_bin r.2.1 y x = some v)
    (k : am_W D cl cA sb base p l e R s m args below meth c nL Q r.2.2.1 lo (v :: st) h rc rs) : am_W D cl cA sb base p l e R s m args below meth c nL Q r.1 lo (y :: x :: st) h rc rs := by
  obtain ⟨pc, i, nx, tg, kv⟩ := r
  obtain ⟨hd, hn, hk⟩ := hr
  dsimp only at hd hn hp k ⊢
  subst hn
  intro H locs cells slots ls hR hS h1 h2 hl
  have K := k H locs cells slots ls hR hS h1 h2 hl
  clear k
  unfold am_bin at hp
  split at hp
  · cases hp; exact lv_iadd hx hb hd K
  · cases hp; exact lv_isub hx hb hd K
  · cases hp; exact lv_imul hx hb hd K
  · cases hp; exact lv_iand hx hb hd K
  · cases hp; exact lv_ior hx hb hd K
  · cases hp; exact lv_ixor hx hb hd K
  · cases hp; exact lv_ishl hx hb hd K
  · cases hp; exact lv_ishr hx hb hd K
  · cases hp; exact lv_iushr hx hb hd rfl K
  · cases hp; exact lv_ladd hx hb hd K
  · cases hp; exact lv_lmul hx hb hd K
  · cases hp; exact W.lcmp hx hb hd K
  · cases hp; exact lv_dcmp hx hb hd K
  · split at hp
    · cases hp
    · rename_i hne
      cases hp
      exact lv_idiv hx hb hd hne K
  · split at hp
    · cases hp
    · rename_i hne
      cases hp
      exact lv_irem hx hb hd hne K
  · cases hp
theorem am_un_ok (hx : p.tables.exec = Jvm.exec) (hb : c.code = cc) (hr : am_okRow own cc big r) {y : Value} (hp : am_un r.2.1 y = some v)
    (k : am_W D cl cA sb base p l e R s m args below meth c nL Q r.2.2.1 lo (v :: st) h rc rs) : am_W D cl cA sb base p l e R s m args below meth c nL Q r.1 lo (y :: st) h rc rs := by
  obtain ⟨pc, i, nx, tg, kv⟩ := r
  obtain ⟨hd, hn, hk⟩ := hr
  dsimp only at hd hn hp k ⊢
  subst hn
  intro H locs cells slots ls hR hS h1 h2 hl
  have K := k H locs cells slots ls hR hS h1 h2 hl
  clear k
  unfold am_un at hp
  split at hp
  · cases hp; exact lv_i2l hx hb hd rfl K
  · cases hp; exact lv_l2i hx hb hd rfl K
  · cases hp; exact lv_i2d hx hb hd K
  · cases hp; exact lv_ineg hx hb hd K
  · cases hp
theorem am_stk_ok (hx : p.tables.exec = Jvm.exec) (hb : c.code = cc) (hr : am_okRow own cc big r) (hp : am_stk r.2.1 st = some st')
    (k : am_W D cl cA sb base p l e R s m args below meth c nL Q r.2.2.1 lo st' h rc rs) : am_W D cl cA sb base p l e R s m args below meth c nL Q r.1 lo st h rc rs := by
  have hr0 := hr
  obtain ⟨pc, i, nx, tg, kv⟩ := r
  obtain ⟨hd, hn, hk⟩ := hr
  dsimp only at hd hn hp
  unfold am_stk at hp
  split at hp
  · cases hp
    intro H locs cells slots ls hR hS h1 h2 hl
    have K := k H locs cells slots ls hR hS h1 h2 hl
    dsimp only at K ⊢
    subst hn
    exact lv_dup hx hb hd rfl K
  · cases hp
    intro H locs cells slots ls hR hS h1 h2 hl
    have K := k H locs cells slots ls hR hS h1 h2 hl
    dsimp only at K ⊢
    subst hn
    exact lv_dup hx hb hd rfl K
  · cases hp
    intro H locs cells slots ls hR hS h1 h2 hl
    have K := k H locs cells slots ls hR hS h1 h2 hl
    dsimp only at K ⊢
    subst hn
    exact lv_dup hx hb hd rfl K
  · cases hp
    intro H locs cells slots ls hR hS h1 h2 hl
    have K := k H locs cells slots ls hR hS h1 h2 hl
    dsimp only at K ⊢
    subst hn
    exact lv_pop hx hb hd rfl K
  · cases hp
    intro H locs cells slots ls hR hS h1 h2 hl
    have K := k H locs cells slots ls hR hS h1 h2 hl
    dsimp only at K ⊢
    subst hn
    exact lv_pop hx hb hd rfl K
  · cases hp
    intro H locs cells slots ls hR hS h1 h2 hl
    have K := k H locs cells slots ls hR hS h1 h2 hl
    dsimp only at K ⊢
    subst hn
    exact lv_pop hx hb hd rfl K
  · cases hp
    intro H locs cells slots ls hR hS h1 h2 hl
    have K := k H locs cells slots ls hR hS h1 h2 hl
    dsimp only at K ⊢
    subst hn
    exact lv_dup2_11 hx hb hd rfl rfl K
  · cases hp
    intro H locs cells slots ls hR hS h1 h2 hl
    have K := k H locs cells slots ls hR hS h1 h2 hl
    dsimp only at K ⊢
    subst hn
    exact lv_dup2_11 hx hb hd rfl rfl K
  · split at hp
    · rename_i hv
      cases hp
      exact am_bin_ok hx hb hr0 hv k
    · split at hp
      · rename_i hv
        cases hp
        exact am_un_ok hx hb hr0 hv k
      · cases hp
  · split at hp
    · rename_i hv
      cases hp
      exact am_un_ok hx hb hr0 hv k
    · cases hp
  · cases hp
theorem am_sto_ok (hx : p.tables.exec = Jvm.exec) (hb : c.code = cc) (hr : am_okRow own cc big r) (hp : am_sto r.2.1 st lo = some (lo', st'))
    (k : am_W D cl cA sb base p l e R s m args below meth c nL Q r.2.2.1 lo' st' h rc rs) : am_W D cl cA sb base p l e R s m args below meth c nL Q r.1 lo st h rc rs := by
  obtain ⟨pc, i, nx, tg, kv⟩ := r
  obtain ⟨hd, hn, hk⟩ := hr
  dsimp only at hd hn hp k ⊢
  subst hn
  intro H locs cells slots ls hR hS h1 h2 hl
  have K := fun ls hl => k H locs cells slots ls hR hS h1 h2 hl
  clear k
  have fin : ∀ {ls' : Array Slot} {L : List (Nat × Value)} {lo1 : am_L}, lo1.length ≤ nL → (∀ q ∈ am_lp (am_cv sb base) 0 lo1, q ∈ L) → lv_has ls' nL L → am_LR (am_cv sb base) ls' nL lo1 :=
    fun a b h3 => ⟨a, h3.1, h3.2.1, fun q hq => h3.2.2 q (b q hq)⟩
  unfold am_sto at hp
  split at hp
  all_goals first
    | (cases hp; done)
    | (obtain ⟨lo1, e1, e2⟩ := Option.map_eq_some_iff.mp hp
       cases e2
       first
       | (obtain ⟨a1, a2, a3⟩ := am_st1_ok (am_cv_cat sb base) hl e1 rfl
          first
          | exact lv_istore_n hx hb hd rfl hl.2 a1 rfl (fun ls' h' => K ls' (fin a2 a3 h'))
          | exact lv_istore hx hb hd hl.2 a1 rfl (fun ls' h' => K ls' (fin a2 a3 h'))
          | exact lv_astore_n hx hb hd rfl hl.2 a1 rfl (fun ls' h' => K ls' (fin a2 a3 h'))
          | exact lv_astore hx hb hd hl.2 a1 rfl (fun ls' h' => K ls' (fin a2 a3 h')))
       | (obtain ⟨a1, a2, a3⟩ := am_st2_ok (am_cv_cat sb base) hl e1
          first
          | exact lv_lstore_n hx hb hd rfl hl.2 a1 rfl (fun ls' h' => K ls' (fin a2 a3 h'))
          | exact lv_lstore hx hb hd hl.2 a1 rfl (fun ls' h' => K ls' (fin a2 a3 h'))
          | exact lv_dstore_n hx hb hd rfl hl.2 a1 rfl (fun ls' h' => K ls' (fin a2 a3 h'))
          | exact lv_dstore hx hb hd hl.2 a1 rfl (fun ls' h' => K ls' (fin a2 a3 h'))))
theorem am_goto_ok (hx : p.tables.exec = Jvm.exec) (hb : c.code = cc) (hr : am_okRow own cc big r) {off : Int} (hi : r.2.1 = .goto off)
    (k : am_W D cl cA sb base p l e R s m args below meth c nL Q r.2.2.2.1 lo st h rc rs) : am_W D cl cA sb base p l e R s m args below meth c nL Q r.1 lo st h rc rs := by
  obtain ⟨pc, i, nx, tg, kv⟩ := r
  obtain ⟨hd, hn, hk⟩ := hr
  dsimp only at hd hn hi k ⊢
  subst hi
  intro H locs cells slots ls hR hS h1 h2 hl
  exact lv_goto hx hb hd (of_decide_eq_true hk) (k H locs cells slots ls hR hS h1 h2 hl)
theorem am_iinc_ok (hx : p.tables.exec = Jvm.exec) (hb : c.code = cc) (hr : am_okRow own cc big r) {j : Nat} {n : Int} {x y : Int32} (hi : r.2.1 = .iinc j n) (hy : r.2.2.2.2 = .int y) (hj : lo[j]? = some (some (.int x))) (hs : am_st1 lo j (.int (x + y)) = some lo')
    (k : am_W D cl cA sb base p l e R s m args below meth c nL Q r.2.2.1 lo' st h rc rs) : am_W D cl cA sb base p l e R s m args below meth c nL Q r.1 lo st h rc rs := by
  obtain ⟨pc, i, nx, tg, kv⟩ := r
  obtain ⟨hd, hn, hk⟩ := hr
  dsimp only at hd hn hi hy k ⊢
  subst hi
  subst hn
  subst hy
  have hk := of_decide_eq_true hk
  dsimp only at hk
  cases hk
  intro H locs cells slots ls hR hS h1 h2 hl
  obtain ⟨a1, a2, a3⟩ := am_st1_ok (am_cv_cat sb base) hl hs rfl
  have hm : (j, Value.int x) ∈ am_lp (am_cv sb base) 0 lo := am_lp_mem.mpr ⟨Nat.zero_le _, .int x, hj, rfl⟩
  obtain ⟨q, hq⟩ := List.getElem?_of_mem hm
  exact lv_iinc hx hb hd hl.2 hq rfl a1 rfl (fun ls' h' => k H locs cells slots ls' hR hS h1 h2 ⟨a2, h'.1, h'.2.1, fun q hq => h'.2.2 q (a3 q hq)⟩)
end AMW
end
section
/-! THE PLAIN MACHINE: fields and arrays. -/
def am_tys : List FieldType := [.int, .boolean, .long, .double, .object "TraceAligner$Trace", .array .int]
/-- a field's row: pool index, class, place, kind (0 int, 1 boolean, 2 reference, 3 long, 4 double), final -/
abbrev am_FR : Type := Nat × Nat × Nat × Nat × Bool
def am_kd : Nat → FieldType → Bool
  | 0, .int => true
  | 1, .boolean => true
  | 2, .object _ => true
  | 2, .array _ => true
  | 3, .long => true
  | 4, .double => true
  | 9, _ => true
  | _, _ => false
def am_fit : Nat → Value → Bool
  | 0, .int _ => true
  | 1, .int x => bif x == 0 then true else x == 1
  | 2, .ref _ => true
  | 2, .null => true
  | 3, .long _ => true
  | 4, .double _ => true
  | _, _ => false
def am_okC (big : List Jvm.Cond) (q : vw_C) : Prop := (∀ w ∈ u_ws q.1 q.2.1 q.2.2, w ∈ big) ∧ (∀ a, a < q.2.2 → ∀ b, b < q.2.2 → a ≠ b → (q.2.1 a).2.1 ≠ (q.2.1 b).2.1) ∧ ∃ ty0 : Nat → FieldType, ∀ k, k < q.2.2 → parseFieldDescriptor (q.2.1 k).2.2.1 = some (ty0 k)
def am_okF (own : String) (cl : List vw_C) (big : List Jvm.Cond) (q : am_FR) : Prop :=
  ∃ (C : String) (T : u_T) (N : Nat), cl[q.2.1]? = some (C, T, N) ∧ am_okC big (C, T, N) ∧ q.2.2.1 < N ∧ Jvm.Cond.fieldLink own q.1 (T q.2.2.1).1 (T q.2.2.1).2.1 (T q.2.2.1).2.2.1 ∈ big ∧
    (∃ ty, parseFieldDescriptor (T q.2.2.1).2.2.1 = some ty ∧ am_kd q.2.2.2.1 ty = true) ∧ (q.2.2.2.1 = 9 ∨ (T q.2.2.1).2.2.2 = q.2.2.2.2) ∧ (q.2.2.2.2 = true → (T q.2.2.1).1 = own)
theorem am_fit_ok {kd sb base : Nat} {ty : FieldType} {v : Value} (h : am_kd kd ty = true) (hv : am_fit kd v = true) : narrow ty (am_cv sb base v) = am_cv sb base v ∧ fits ty (am_cv sb base v) = true := by
  unfold am_kd at h
  split at h
  all_goals first
    | (cases h; done)
    | (cases v <;> first
        | (exact ⟨rfl, rfl⟩)
        | (rename_i x
           obtain rfl | rfl : x = 0 ∨ x = 1 := by simpa [am_fit, Bool.cond_eq_ite, Bool.or_eq_true] using hv
           · exact ⟨rfl, rfl⟩
           · exact ⟨rfl, rfl⟩)
        | (exact absurd hv (by simp [am_fit])))
def am_rv (f : Nat → Option Nat) (k : Nat) : Value := match f k with
  | none => .null
  | some a => .ref a
/-- what an array of kind t gives -/
def am_aget : Instr → Nat → vp_A → Nat → Option Value
  | .iaload, 0, (_, .inl f), k => some (.int (f k))
  | .iaload, 99, (_, .inl f), k => some (.int (f k))
  | .baload, 1, (_, .inl f), k => bif am_on 1 then some (.int (f k)) else none
  | .laload, 2, (_, .inr (.inl f)), k => bif am_on 2 then some (.long (f k)) else none
  | .daload, 3, (_, .inr (.inr (.inr (.inl f)))), k => bif am_on 3 then some (.double (f k)) else none
  | .aaload, 4, (_, .inr (.inr (.inr (.inr f)))), k => some (am_rv f k)
  | .aaload, 5, (_, .inr (.inr (.inr (.inr f)))), k => some (am_rv f k)
  | _, _, _, _ => none
def am_aset : Instr → Nat → vp_A → Nat → Value → Option vp_A
  | .iastore, 0, (n, .inl f), k, .int y => some (n, .inl (upd f k y))
  | .bastore, 1, (n, .inl f), k, .int y => bif am_fit 1 (.int y) && am_on 1 then some (n, .inl (upd f k y)) else none
  | .lastore, 2, (n, .inr (.inl f)), k, .long y => bif am_on 2 then some (n, .inr (.inl (vp_updL f k y))) else none
  | .dastore, 3, (n, .inr (.inr (.inr (.inl f)))), k, .double y => bif am_on 3 then some (n, .inr (.inr (.inr (.inl (vf_upd f k y))))) else none
  | _, _, _, _, _ => none
section AMH
variable {D : va_G} {cl : List vw_C} {cA : Nat → ClassId} {sb base : Nat} {p : Program} {l : Launch} {e : Env} {R : Room} {s : State} {m : MethodId} {args : Array Value} {below : List Frame} {meth : Method} {c : Code} {nL : Nat} {Q : State → Prop}
variable {cc : ByteArray} {own : String} {big : List Jvm.Cond} {r : am_Row} {lo lo' : am_L} {st st' : List Value} {h : am_H} {rc rs : Nat} {v : Value}
theorem am_get_ok (hx : p.tables.exec = Jvm.exec) (hb : c.code = cc) (hown : s.vm.findClass own = some m.cls) (hts : ∀ w ∈ big, w.before args s = true) (hK : am_K D cl cA am_tys s) (hr : am_okRow own cc big r) {q : am_FR} (hq : am_okF own cl big q) (hi : r.2.1 = .getfield q.1)
    {a ci : Nat} {vs : List Value} (ha : h[a]? = some (.inr (ci, vs))) (hci : ci = q.2.1) (hv : vs[q.2.2.1]? = some v)
    (k : am_W D cl cA sb base p l e R s m args below meth c nL Q r.2.2.1 lo (v :: st) h rc rs) : am_W D cl cA sb base p l e R s m args below meth c nL Q r.1 lo (.ref a :: st) h rc rs := by
  obtain ⟨pc, i, nx, tg, kv⟩ := r
  obtain ⟨hd, hn, hk⟩ := hr
  obtain ⟨fi0, fci, fk, fkd, ffin⟩ := q
  obtain ⟨C, T, N, hc, ⟨hin, -⟩, hkN, hlink, -⟩ := hq
  dsimp only at hd hn hi hc hkN hlink hci hv k ⊢
  subst hi hn hci
  intro H locs cells slots ls hR hS h1 h2 hl
  have K := k H locs cells slots ls hR hS h1 h2 hl
  obtain ⟨r', e1, cell, q1, q2, q3, q4⟩ := hR.2.2.2 a _ ha
  have hr' : r' = (C, T, N) := Option.some.inj (e1.symm.trans hc)
  subst hr'
  obtain ⟨hSl, hfc, kC, hkC, hkind⟩ := hK.1 ci _ hc
  obtain ⟨cf, kf, fi, f, hfo, hsl⟩ := hSl fk hkN
  refine W.getf hx hb hown (hts _ hlink) hfo (u_facts hfc hkC (u_lays hts hin hkN) hfo).1 q1 (by rw [q3]; exact fun h => by cases h) (v := am_cv sb base v) ?_ rfl rfl hd K
  rw [hsl, q4 fk hkN]
  simp [vp_V, hv]
theorem am_put_ok (hx : p.tables.exec = Jvm.exec) (hb : c.code = cc) (hown : s.vm.findClass own = some m.cls) (hts : ∀ w ∈ big, w.before args s = true) (hK : am_K D cl cA am_tys s) (hr : am_okRow own cc big r) {q : am_FR} (hq : am_okF own cl big q) (hi : r.2.1 = .putfield q.1)
    (hfin : q.2.2.2.2 = true → meth.name = "<init>") {a ci : Nat} {vs : List Value} (ha : h[a]? = some (.inr (ci, vs))) (hci : ci = q.2.1) (hv : q.2.2.1 < vs.length) (hfit : am_fit q.2.2.2.1 v = true)
    (k : am_W D cl cA sb base p l e R s m args below meth c nL Q r.2.2.1 lo st (h.set a (.inr (ci, vs.set q.2.2.1 v))) rc rs) : am_W D cl cA sb base p l e R s m args below meth c nL Q r.1 lo (v :: .ref a :: st) h rc rs := by
  obtain ⟨pc, i, nx, tg, kv⟩ := r
  obtain ⟨hd, hn, hk⟩ := hr
  obtain ⟨fi0, fci, fk, fkd, ffin⟩ := q
  obtain ⟨C, T, N, hc, ⟨hin, hnm, ty0, hty⟩, hkN, hlink, ⟨ty, hpd, hkd⟩, hff, hfo1⟩ := hq
  dsimp only at hd hn hi hc hkN hlink hci hv k hfin hfit hpd hkd hff hfo1 ⊢
  subst hi hn hci
  have hff : (T fk).2.2.2 = ffin := hff.resolve_left (by rintro rfl; exact absurd hfit (by simp [am_fit]))
  intro H locs cells slots ls hR hS h1 h2 hl
  have a0 : a ≠ 0 := by
    rintro rfl
    obtain ⟨x, hx⟩ := hR.2.2.1
    rw [hx] at ha
    cases ha
  have aB : base ≤ am_ad sb base a := by
    obtain ⟨j, rfl⟩ : ∃ j, a = j + 1 := ⟨a - 1, by omega⟩
    exact am_ad_ge
  obtain ⟨r', e1, cell, q1, q2, q3, q4⟩ := hR.2.2.2 a _ ha
  have hr' : r' = (C, T, N) := Option.some.inj (e1.symm.trans hc)
  subst hr'
  obtain ⟨hSl, hfc, kC, hkC, hkind⟩ := hK.1 ci _ hc
  obtain ⟨cf, kf, fi, f, hfo, hsl⟩ := hSl fk hkN
  obtain ⟨nw, ft⟩ := am_fit_ok (sb := sb) (base := base) hkd hfit
  have hap : ∀ x y, x < N → y < N → x ≠ y → (D.2 ci) x ≠ (D.2 ci) y := by
    intro x y hx hy hne
    obtain ⟨_, _, _, fa, hia, ea⟩ := hSl x hx
    obtain ⟨_, _, _, fb, hib, eb⟩ := hSl y hy
    rw [← ea, ← eb]
    refine u_apart (u_lays hts hin hx) (u_lays hts hin hy) hia hib ?_
    rw [(State.fieldFound?_type hia (hty x hx)).1, (State.fieldFound?_type hib (hty y hy)).1]
    exact hnm x hx y hy hne
  have hst := (u_facts hfc hkC (u_lays hts hin hkN) hfo).1
  have hlay := hts _ (hin _ (u_in_lay hkN))
  unfold u_lay at hlay
  have next : ∀ H' : Heap, H'[am_ad sb base a]? = some (cell.setSlot f.slot (am_cv sb base v)) → H'.size = H.size → (∀ q, q ≠ am_ad sb base a → H'[q]? = H[q]?) →
      W p l e R s m args below meth c H' (locs ++ [⟨am_ad sb base a, f.slot⟩]) cells slots Q (F0 m (pc + 3) ls (st.map (am_cv sb base))) := by
    intro H' e1 e2 e3
    rw [hsl] at e1 ⊢
    refine k H' _ cells slots ls (hR.set ha e2 e3 a0 ⟨_, hc, t_OB.to (V := updV (vp_V (vs.map (am_cv sb base))) fk (am_cv sb base v)) ⟨_, e1, q2, q3, t_set q4 hap hkN _⟩ (fun j _ => ?_)⟩) (hS.put e2 e3 aB) h1 h2 hl
    rw [vp_updV_set (by rw [List.length_map]; exact hv), List.map_set]
  cases hfb : ffin with
  | false =>
    rw [hfb] at hff
    rw [if_neg (by rw [hff]; decide)] at hlay
    have h6 := u_store hfc hkC hkind hlay hfo hpd nw ft
    exact W.putK hx hb (f := f) ⟨hown, hts _ hlink, ⟨_, _, _, hfo⟩, hst⟩ (by rw [q2]; exact h6) q1 q3 (by rw [hsl]; exact k2_hasslot (q4 fk hkN)) rfl rfl hd next
  | true =>
    rw [hfb] at hff
    rw [if_pos hff] at hlay
    have hcf : m.cls = cf := by
      obtain ⟨_, _, c', _, _, _, -, -, hf', -, -, -, hown2, -⟩ := Cond.laysFinal_spec hlay
      have e1 : c' = cf := by have := hfo.symm.trans hf'; simp at this; exact this.1.symm
      rw [hfo1 hfb] at hown2
      rw [← e1]; exact Option.some.inj (hown.symm.trans hown2)
    have h6 := u_fits hfc hkC hkind (Or.inr hlay) hfo hpd nw ft
    exact W.putFinK hx hb hown (hts _ hlink) hfo hst hcf (hfin hfb) (by rw [q2]; exact h6) q1 q3 (by rw [hsl]; exact k2_hasslot (q4 fk hkN)) rfl rfl hd next
theorem am_rv_cv (f : Nat → Option Nat) (k : Nat) : am_cv sb base (am_rv f k) = va_rf ((f k).map (am_ad sb base)) := by
  unfold am_rv
  cases f k <;> rfl
theorem am_at_i {U : State} {H : Heap} {a t n : Nat} {f : Nat → Int32} (hA : am_at D cl cA sb base U H a (.inl (t, n, .inl f))) (ht : t ≠ 99 ∧ t ≠ 98) : H[a]? = some (arrV (cA t) n (fun j => .int (f j))) := (hA.2 ht.1).resolve_left fun z => ht.2 z.1
theorem am_at_l {U : State} {H : Heap} {a t n : Nat} {f : Nat → Int64} (hA : am_at D cl cA sb base U H a (.inl (t, n, .inr (.inl f)))) (ht : t ≠ 99 ∧ t ≠ 98) : H[a]? = some (arrV (cA t) n (fun j => .long (f j))) := (hA.2 ht.1).resolve_left fun z => ht.2 z.1
theorem am_at_d {U : State} {H : Heap} {a t n : Nat} {f : Nat → UInt64} (hA : am_at D cl cA sb base U H a (.inl (t, n, .inr (.inr (.inr (.inl f)))))) (ht : t ≠ 99 ∧ t ≠ 98) : H[a]? = some (arrV (cA t) n (fun j => .double (f j))) := (hA.2 ht.1).resolve_left fun z => ht.2 z.1
theorem am_at_q {U : State} {H : Heap} {a t n : Nat} {f : Nat → Option Nat} (hA : am_at D cl cA sb base U H a (.inl (t, n, .inr (.inr (.inr (.inr f)))))) (ht : t ≠ 99 ∧ t ≠ 98) : H[a]? = some (arrV (cA t) n (fun j => va_rf ((f j).map (am_ad sb base)))) := (hA.2 ht.1).resolve_left fun z => ht.2 z.1
theorem am_mk_i {U : State} {H : Heap} {a t n : Nat} {f : Nat → Int32} (ht : t ≠ 99) (e : H[a]? = some (arrV (cA t) n (fun j => .int (f j)))) : am_at D cl cA sb base U H a (.inl (t, n, .inl f)) := ⟨fun q => absurd q ht, fun _ => Or.inr e⟩
theorem am_mk_l {U : State} {H : Heap} {a t n : Nat} {f : Nat → Int64} (ht : t ≠ 99) (e : H[a]? = some (arrV (cA t) n (fun j => .long (f j)))) : am_at D cl cA sb base U H a (.inl (t, n, .inr (.inl f))) := ⟨fun q => absurd q ht, fun _ => Or.inr e⟩
theorem am_mk_d {U : State} {H : Heap} {a t n : Nat} {f : Nat → UInt64} (ht : t ≠ 99) (e : H[a]? = some (arrV (cA t) n (fun j => .double (f j)))) : am_at D cl cA sb base U H a (.inl (t, n, .inr (.inr (.inr (.inl f))))) := ⟨fun q => absurd q ht, fun _ => Or.inr e⟩
theorem am_mk_q {U : State} {H : Heap} {a t n : Nat} {f : Nat → Option Nat} (ht : t ≠ 99) (e : H[a]? = some (arrV (cA t) n (fun j => va_rf ((f j).map (am_ad sb base))))) : am_at D cl cA sb base U H a (.inl (t, n, .inr (.inr (.inr (.inr f))))) := ⟨fun q => absurd q ht, fun _ => Or.inr e⟩
theorem am_ald_ok (hx : p.tables.exec = Jvm.exec) (hb : c.code = cc) (hK : am_K D cl cA am_tys s) (hr : am_okRow own cc big r) {a t : Nat} {x : vp_A} {j : Int32} (ha : h[a]? = some (.inl (t, x))) (hin : vp_in j x.1) (hv : am_aget r.2.1 t x j.toNatClampNeg = some v)
    (k : am_W D cl cA sb base p l e R s m args below meth c nL Q r.2.2.1 lo (v :: st) h rc rs) : am_W D cl cA sb base p l e R s m args below meth c nL Q r.1 lo (.int j :: .ref a :: st) h rc rs := by
  obtain ⟨pc, i, nx, tg, kv⟩ := r
  obtain ⟨hd, hn, hk⟩ := hr
  dsimp only at hd hn hv k ⊢
  subst hn
  intro H locs cells slots ls hR hS h1 h2 hl
  have K := k H locs cells slots ls hR hS h1 h2 hl
  have hA := hR.2.2.2 a _ ha
  clear k
  unfold am_aget at hv
  split at hv
  · rename_i n f
    cases hv
    have hlt : j.toNatClampNeg < n := Nat.not_le.mp fun q => hin (Or.inr q)
    exact W.iald (v := .int (f j.toNatClampNeg)) hx hb (am_at_i hA (by decide)) ((hK.2.1 0 .int rfl rfl).1 n (fun j => .int (f j))) (fun q => by cases q) (by rw [arrV_size]; exact hin) (by rw [arrV_read _ _ hlt]) rfl rfl hd K
  · rename_i n f
    cases hv
    have hlt : j.toNatClampNeg < n := Nat.not_le.mp fun q => hin (Or.inr q)
    obtain ⟨scr, g1, g2, g3, g4, xs, g5, g6⟩ := hA.1 rfl
    dsimp only at g4 g5 g6
    cases g5
    exact W.iald (v := .int (f j.toNatClampNeg)) hx hb g1 g2 g3 (by rw [g4]; exact hin) (g6 _ hlt) rfl rfl hd K
  · rename_i n f
    cases ho : am_on 1 <;> rw [ho] at hv <;> simp only [cond_true, cond_false] at hv
    · cases hv
    cases hv
    have hlt : j.toNatClampNeg < n := Nat.not_le.mp fun q => hin (Or.inr q)
    exact W.zald (v := .int (f j.toNatClampNeg)) hx hb (am_at_i hA (by decide)) ((hK.2.1 1 .boolean rfl ho).1 n (fun j => .int (f j))) (fun q => by cases q) (by rw [arrV_size]; exact hin) (by rw [arrV_read _ _ hlt]) rfl rfl hd K
  · rename_i n f
    cases ho : am_on 2 <;> rw [ho] at hv <;> simp only [cond_true, cond_false] at hv
    · cases hv
    cases hv
    have hlt : j.toNatClampNeg < n := Nat.not_le.mp fun q => hin (Or.inr q)
    exact W.lald (v := .long (f j.toNatClampNeg)) hx hb (am_at_l hA (by decide)) ((hK.2.1 2 .long rfl ho).1 n (fun j => .long (f j))) (fun q => by cases q) (by rw [arrV_size]; exact hin) (by rw [arrV_read _ _ hlt]) rfl rfl hd K
  · rename_i n f
    cases ho : am_on 3 <;> rw [ho] at hv <;> simp only [cond_true, cond_false] at hv
    · cases hv
    cases hv
    have hlt : j.toNatClampNeg < n := Nat.not_le.mp fun q => hin (Or.inr q)
    exact W.dald (v := .double (f j.toNatClampNeg)) hx hb (am_at_d hA (by decide)) ((hK.2.1 3 .double rfl ho).1 n (fun j => .double (f j))) (fun q => by cases q) (by rw [arrV_size]; exact hin) (by rw [arrV_read _ _ hlt]) rfl rfl hd K
  · rename_i n f
    cases hv
    have hlt : j.toNatClampNeg < n := Nat.not_le.mp fun q => hin (Or.inr q)
    exact W.aald (v := am_cv sb base (am_rv f j.toNatClampNeg)) hx hb (am_at_q hA (by decide)) ((hK.2.1 4 _ rfl rfl).1 n (fun j => va_rf ((f j).map (am_ad sb base)))) rfl (fun q => by cases q) (by rw [arrV_size]; exact hin) (by show (arrV _ _ _).slots[_]? = _; rw [arrV_read _ _ hlt, am_rv_cv]) rfl rfl hd K
  · rename_i n f
    cases hv
    have hlt : j.toNatClampNeg < n := Nat.not_le.mp fun q => hin (Or.inr q)
    exact W.aald (v := am_cv sb base (am_rv f j.toNatClampNeg)) hx hb (am_at_q hA (by decide)) ((hK.2.1 5 _ rfl rfl).1 n (fun j => va_rf ((f j).map (am_ad sb base)))) rfl (fun q => by cases q) (by rw [arrV_size]; exact hin) (by show (arrV _ _ _).slots[_]? = _; rw [arrV_read _ _ hlt, am_rv_cv]) rfl rfl hd K
  · cases hv
theorem am_ast_ok (hx : p.tables.exec = Jvm.exec) (hb : c.code = cc) (hK : am_K D cl cA am_tys s) (hr : am_okRow own cc big r) {a t : Nat} {x y : vp_A} {j : Int32} (ha : h[a]? = some (.inl (t, x))) (hin : vp_in j x.1) (hv : am_aset r.2.1 t x j.toNatClampNeg v = some y)
    (k : am_W D cl cA sb base p l e R s m args below meth c nL Q r.2.2.1 lo st (h.set a (.inl (t, y))) rc rs) : am_W D cl cA sb base p l e R s m args below meth c nL Q r.1 lo (v :: .int j :: .ref a :: st) h rc rs := by
  obtain ⟨pc, i, nx, tg, kv⟩ := r
  obtain ⟨hd, hn, hk⟩ := hr
  dsimp only at hd hn hv k ⊢
  subst hn
  intro H locs cells slots ls hR hS h1 h2 hl
  have hA := hR.2.2.2 a _ ha
  have a0 : t ≠ 99 → a ≠ 0 := by
    rintro ht rfl
    obtain ⟨x, hx⟩ := hR.2.2.1
    rw [hx] at ha
    cases ha
    exact ht rfl
  have aB : t ≠ 99 → base ≤ am_ad sb base a := by
    intro ht
    obtain ⟨j, rfl⟩ : ∃ j, a = j + 1 := ⟨a - 1, by have := a0 ht; omega⟩
    exact am_ad_ge
  have K := fun H1 l1 q1 q2 => k H1 l1 cells slots ls q1 q2 h1 h2 hl
  clear k
  unfold am_aset at hv
  split at hv
  · rename_i n f w
    cases hv
    refine W.iast hx hb (am_at_i hA (by decide)) ((hK.2.1 0 .int rfl rfl).1 n (fun j => .int (f j))) (fun q => by cases q) (by rw [arrV_size]; exact hin) rfl rfl hd fun H1 e z oq => ?_
    refine K H1 _ (hR.set ha z oq (a0 (by decide)) (am_mk_i (by decide) ?_)) (hS.put z oq (aB (by decide)))
    rw [e]
    rw [arrV_store]
    congr 2
    funext q
    by_cases hq : q = j.toNatClampNeg
    · subst hq
      simp [updV, upd]
    · simp [updV, upd, hq]
  · rename_i n f w
    cases ef0 : (am_fit 1 (.int w) && am_on 1) <;> rw [ef0] at hv <;> simp only [cond_true, cond_false] at hv
    · cases hv
    simp only [Bool.and_eq_true] at ef0
    obtain ⟨ef, ho⟩ := ef0
    cases hv
    refine W.zast hx hb (am_at_i hA (by decide)) ((hK.2.1 1 .boolean rfl ho).1 n (fun j => .int (f j))) (fun q => by cases q) (by rw [arrV_size]; exact hin) rfl rfl hd fun H1 e z oq => ?_
    refine K H1 _ (hR.set ha z oq (a0 (by decide)) (am_mk_i (by decide) ?_)) (hS.put z oq (aB (by decide)))
    rw [e]
    rw [arrV_store]
    congr 2
    funext q
    by_cases hq : q = j.toNatClampNeg
    · subst hq
      have := (am_fit_ok (sb := sb) (base := base) (kd := 1) (ty := .boolean) rfl ef).1
      simp only [am_cv] at this
      simp [updV, upd, this]
    · simp [updV, upd, hq]
  · rename_i n f w
    cases ho : am_on 2 <;> rw [ho] at hv <;> simp only [cond_true, cond_false] at hv
    · cases hv
    cases hv
    refine W.last hx hb (am_at_l hA (by decide)) ((hK.2.1 2 .long rfl ho).1 n (fun j => .long (f j))) (fun q => by cases q) (by rw [arrV_size]; exact hin) rfl rfl hd fun H1 e z oq => ?_
    refine K H1 _ (hR.set ha z oq (a0 (by decide)) (am_mk_l (by decide) ?_)) (hS.put z oq (aB (by decide)))
    rw [e]
    rw [arrV_store]
    congr 2
    funext q
    by_cases hq : q = j.toNatClampNeg
    · subst hq
      simp [updV, vp_updL]
    · simp [updV, vp_updL, hq]
  · rename_i n f w
    cases ho : am_on 3 <;> rw [ho] at hv <;> simp only [cond_true, cond_false] at hv
    · cases hv
    cases hv
    refine W.dast hx hb (am_at_d hA (by decide)) ((hK.2.1 3 .double rfl ho).1 n (fun j => .double (f j))) (fun q => by cases q) (by rw [arrV_size]; exact hin) rfl rfl hd fun H1 e z oq => ?_
    refine K H1 _ (hR.set ha z oq (a0 (by decide)) (am_mk_d (by decide) ?_)) (hS.put z oq (aB (by decide)))
    rw [e]
    rw [arrV_store]
    congr 2
    funext q
    by_cases hq : q = j.toNatClampNeg
    · subst hq
      simp [updV, vf_upd]
    · simp [updV, vf_upd, hq]
  · cases hv
theorem am_alen_ok (hx : p.tables.exec = Jvm.exec) (hb : c.code = cc) (hK : am_K D cl cA am_tys s) (hr : am_okRow own cc big r) {a t : Nat} {x : vp_A} (hi : r.2.1 = .arraylength) (ha : h[a]? = some (.inl (t, x))) (ht : (t < 6 ∧ am_on t = true) ∨ t = 99)
    (k : am_W D cl cA sb base p l e R s m args below meth c nL Q r.2.2.1 lo (.int (nI x.1) :: st) h rc rs) : am_W D cl cA sb base p l e R s m args below meth c nL Q r.1 lo (.ref a :: st) h rc rs := by
  obtain ⟨pc, i, nx, tg, kv⟩ := r
  obtain ⟨hd, hn, hk⟩ := hr
  dsimp only at hd hn hi k ⊢
  subst hi hn
  intro H locs cells slots ls hR hS h1 h2 hl
  have K := k H locs cells slots ls hR hS h1 h2 hl
  have hA := hR.2.2.2 a _ ha
  by_cases e : t = 99
  · obtain ⟨scr, g1, g2, g3, g4, -⟩ := hA.1 e
    exact W.alen hx hb g1 g2 (n := nI x.1) (by rw [g4]; rfl) rfl rfl hd K
  · obtain ⟨ht6, ho⟩ : t < 6 ∧ am_on t = true := ht.resolve_right e
    have hA := (hA.2 e).resolve_left fun z => by omega
    obtain ⟨ty, hty⟩ : ∃ ty, am_tys[t]? = some ty := ⟨am_tys[t]'ht6, List.getElem?_eq_getElem ht6⟩
    obtain ⟨n, f | f | f | f | f⟩ := x
    · exact W.alen (n := nI n) hx hb hA ((hK.2.1 t _ hty ho).1 n (fun j => .int (f j))) (by show (arrV _ _ _).slots.size.toInt32 = _; rw [arrV_size]; rfl) rfl rfl hd K
    · exact W.alen (n := nI n) hx hb hA ((hK.2.1 t _ hty ho).1 n (fun j => .long (f j))) (by show (arrV _ _ _).slots.size.toInt32 = _; rw [arrV_size]; rfl) rfl rfl hd K
    · exact W.alen (n := nI n) hx hb hA ((hK.2.1 t _ hty ho).1 n (fun j => .float (f j))) (by show (arrV _ _ _).slots.size.toInt32 = _; rw [arrV_size]; rfl) rfl rfl hd K
    · exact W.alen (n := nI n) hx hb hA ((hK.2.1 t _ hty ho).1 n (fun j => .double (f j))) (by show (arrV _ _ _).slots.size.toInt32 = _; rw [arrV_size]; rfl) rfl rfl hd K
    · exact W.alen (n := nI n) hx hb hA ((hK.2.1 t _ hty ho).1 n (fun j => va_rf ((f j).map (am_ad sb base)))) (by show (arrV _ _ _).slots.size.toInt32 = _; rw [arrV_size]; rfl) rfl rfl hd K
end AMH
end
section
/-! THE PLAIN MACHINE: a method's tables, its rules, its contract. -/
abbrev am_M : Type := MethodName × ByteArray × Nat × Option FieldType
/-- 'new': pool index, class, the fields at first -/
abbrev am_NR : Type := Nat × Nat × List Value
/-- a call: pool index, kind (0 virtual, 1 static, 2 special, 3 4 5 the same of a nest mate), the receiver's class, how many parameters, the method -/
abbrev am_MR : Type := Nat × Nat × Nat × Nat × am_M
def am_okN (own : String) (cl : List vw_C) (big : List Jvm.Cond) (q : am_NR) : Prop :=
  ∃ (C : String) (T : u_T) (N : Nat), cl[q.2.1]? = some (C, T, N) ∧ am_okC big (C, T, N) ∧ Jvm.Cond.classLink own q.1 C ∈ big ∧ Jvm.Cond.instantiable C N ∈ big ∧ Jvm.Cond.initialized C ∈ big ∧
    (∀ k, k < N → (parseFieldDescriptor (T k).2.2.1).map defaultValue = q.2.2[k]?) ∧ q.2.2.length = N ∧ q.2.2.all (fun v => !(am_isk 1 v) || v == .null) = true
def am_okM (own : String) (cl : List vw_C) (big : List Jvm.Cond) (q : am_MR) : Prop :=
  Jvm.Cond.code q.2.2.2.2.1 q.2.2.2.2.2.1 q.2.2.2.2.2.2.1 q.2.2.2.2.2.2.2 ∈ big ∧
  (q.2.2.2.2.1.cls ≠ "java/lang/invoke/MethodHandle" ∧ q.2.2.2.2.1.cls ≠ "java/lang/invoke/VarHandle" ∧ (parseMethodDescriptor q.2.2.2.2.1.desc).map (fun d => d.parameters.length) = some q.2.2.2.1) ∧
  Jvm.Cond.initialized q.2.2.2.2.1.cls ∈ big ∧
  match q.2.1 with
  | 0 => Jvm.Cond.methodLink own q.1 q.2.2.2.2.1 ∈ big ∧ Jvm.Cond.instanceMethod q.2.2.2.2.1 ∈ big ∧ Jvm.Cond.selects q.2.2.2.2.1.cls q.2.2.2.2.1 q.2.2.2.2.1 ∈ big ∧ (cl[q.2.2.1]?).map (·.1) = some q.2.2.2.2.1.cls
  | 1 => Jvm.Cond.methodLink own q.1 q.2.2.2.2.1 ∈ big ∧ Jvm.Cond.static q.2.2.2.2.1 ∈ big
  | 2 => Jvm.Cond.methodLink own q.1 q.2.2.2.2.1 ∈ big ∧ Jvm.Cond.instanceMethod q.2.2.2.2.1 ∈ big ∧ q.2.2.2.2.1.name = "<init>" ∧ q.2.2.2.2.2.2.2 = none
  | 4 => ∃ host, (own, q.1, q.2.2.2.2.1, host) ∈ am_nst ∧ Jvm.Cond.static q.2.2.2.2.1 ∈ big
  | 5 => ∃ host, (own, q.1, q.2.2.2.2.1, host) ∈ am_nst ∧ Jvm.Cond.instanceMethod q.2.2.2.2.1 ∈ big ∧ q.2.2.2.2.1.name = "<init>" ∧ q.2.2.2.2.2.2.2 = none
  | _ => False
/-- the classes, the words, a class' tables (fields, new, calls), a method and its rows -/
abbrev am_E : Type := (List vw_C × List Jvm.Cond) × (List am_FR × List am_NR × List am_MR) × am_M × List am_Row
def am_okT (cl : List vw_C) (big : List Jvm.Cond) (own : String) (t : List am_FR × List am_NR × List am_MR) : Prop :=
  (∀ q ∈ t.1, am_okF own cl big q) ∧ (∀ q ∈ t.2.1, am_okN own cl big q) ∧ (∀ q ∈ t.2.2, am_okM own cl big q)
def am_okE (E : am_E) : Prop :=
  (∀ w ∈ E.1.2, goodWord w = true) ∧ am_okT E.1.1 E.1.2 E.2.2.1.1.cls E.2.1 ∧ (∀ r ∈ E.2.2.2, am_okRow E.2.2.1.1.cls E.2.2.1.2.1 E.1.2 r)
def am_Cx (E : am_E) (D : va_G) (cA : Nat → ClassId) (p : Program) (s : State) (m : MethodId) (args : Array Value) (meth : Method) (c : Code) : Prop :=
  p.tables.exec = Jvm.exec ∧ c.code = E.2.2.1.2.1 ∧ c.maxLocals = E.2.2.1.2.2.1 ∧ meth.sig.returnType = E.2.2.1.2.2.2 ∧ s.vm.findClass E.2.2.1.1.cls = some m.cls ∧ (∀ w ∈ E.1.2, w.before args s = true) ∧ am_K D E.1.1 cA am_tys s ∧ meth.locks = false ∧ meth.name = E.2.2.1.1.name
/-- what is owed at the end, by the walk's places -/
abbrev am_Z : Type := Launch → Code → va_G → (Nat → ClassId) → Nat → Nat → List Frame → Array Value → State → State → Prop
/-- from here on the walk owes what Z says; rc cells of rs slots may still be made -/
def am_B (E : am_E) (R : Room) (Z : am_Z) (pc : Nat) (lo : am_L) (st : List Value) (h : am_H) (rc rs : Nat) : Prop :=
  am_okE E → ∀ (l : Launch) (D : va_G) (cA : Nat → ClassId) (sb base : Nat) (p : Program) (e : Env) (s : State) (m : MethodId) (args : Array Value) (below : List Frame) (meth : Method) (c : Code),
    am_Cx E D cA p s m args meth c → am_W D E.1.1 cA sb base p l e R s m args below meth c E.2.2.1.2.2.1 (Z l c D cA sb base below args s) pc lo st h rc rs
/-- a method's end: it answers v and leaves the cells h' -/
def am_Qc (D : va_G) (cl : List vw_C) (cA : Nat → ClassId) (sb base : Nat) (Qa : Option Value → am_H → Prop) : Array Value → State → Outcome → State → Prop := fun _ st oc t =>
  (∃ (v : Option Value) (h' : am_H), oc = .returned (v.map (am_cv sb base)) ∧ Qa v h' ∧ am_R D cl cA sb base t h' t.heap ∧ am_K D cl cA am_tys t) ∧ va_F (fun q => base ≤ q) st t
def am_rm (f dc ds : Nat) : Room := { frames := f, cells := dc, slots := ds, locals := 36 * f }
def am_ZM (E : am_E) (dc ds : Nat) (Qa : Option Value → am_H → Prop) : am_Z := fun _ _ D cA sb base below args s => MQ below (am_Qc D E.1.1 cA sb base Qa) args s dc ds (fun q => base ≤ q)
/-- THE CONTRACT: called with av at the cells h, the method ends, with Qa; dc cells of ds slots come at most; f frames lie over its own -/
def am_Ct (G : List vw_C × List Jvm.Cond) (M : am_M) (f dc ds : Nat) (av : List Value) (h : am_H) (Qa : Option Value → am_H → Prop) : Prop :=
  ∀ (l : Launch) (D : va_G) (cA : Nat → ClassId) (sb base : Nat), Met l M.1 (.code M.1 M.2.1 M.2.2.1 M.2.2.2 :: G.2) (am_rm f dc ds)
    (va_Pc (av.map (am_cv sb base)) (fun U => am_R D G.1 cA sb base U h U.heap ∧ am_K D G.1 cA am_tys U)) (am_Qc D G.1 cA sb base Qa) dc ds (fun q => base ≤ q)
theorem am_lo_mem {g : Value → Value} (hg : ∀ v, (g v).category = v.category) : ∀ (vs : List Value) (k : Nat), ∀ q ∈ am_lp g k (am_lo vs), q ∈ lv_args k (vs.map g)
  | [], _, q, h => by simp [am_lo, am_lp] at h
  | v :: t, k, q, h => by
    have hc := hg v
    show q ∈ (k, g v) :: lv_args (if (g v).category = 2 then k + 2 else k + 1) (t.map g)
    rw [hc]
    cases v <;> simp only [am_lo, am_lp, List.mem_cons] at h <;> (rcases h with h | h; exact List.mem_cons.mpr (Or.inl h); exact List.mem_cons_of_mem _ (am_lo_mem hg t _ q h))
theorem am_lo_len {g : Value → Value} (hg : ∀ v, (g v).category = v.category) : ∀ (vs : List Value), (lg_sl (vs.map g)).length = (am_lo vs).length
  | [] => rfl
  | v :: t => by
    have hc := hg v
    have ih := am_lo_len hg t
    have e : lg_sl ((v :: t).map g) = (if (g v).category = 2 then [Slot.val (g v), .second] else [.val (g v)]) ++ lg_sl (t.map g) := by simp [lg_sl]
    rw [e, hc, List.length_append, ih]
    cases v <;> simp [am_lo, Value.category] <;> omega
theorem am_lp_pad {g : Value → Value} {lo : am_L} {n : Nat} {q : Nat × Value} {k : Nat} (h : q ∈ am_lp g k (lo ++ List.replicate n none)) : q ∈ am_lp g k lo := by
  obtain ⟨h1, v, h2, h3⟩ := am_lp_mem.mp h
  refine am_lp_mem.mpr ⟨h1, v, ?_, h3⟩
  by_cases e : q.1 - k < lo.length
  · rwa [List.getElem?_append_left e] at h2
  · rw [List.getElem?_append_right (by omega), List.getElem?_replicate] at h2
    split at h2 <;> cases h2
theorem am_entry {sb base : Nat} {vs : List Value} {n : Nat} (hn : (am_lo vs).length ≤ n) :
    am_LR (am_cv sb base) ((lg_sl (vs.map (am_cv sb base)) ++ List.replicate (n - (lg_sl (vs.map (am_cv sb base))).length) Slot.unset).toArray) n (am_lo0 vs n) := by
  have hl := am_lo_len (am_cv_cat sb base) vs
  have h1 := lv_entry (vs.map (am_cv sb base)) (n := n) (by rw [hl]; exact hn)
  refine ⟨by unfold am_lo0; rw [List.length_append, List.length_replicate]; omega, h1.1, h1.2.1, fun q hq => h1.2.2 q ?_⟩
  exact am_lo_mem (am_cv_cat sb base) vs 0 q (am_lp_pad hq)
/-- a contract out of a walk of its body -/
theorem am_Ct.of {E : am_E} {f dc ds : Nat} {av : List Value} {h : am_H} {Qa : Option Value → am_H → Prop} (hE : am_okE E) (hy : plainName E.2.2.1.1.cls = true) (hn : (am_lo av).length ≤ E.2.2.1.2.2.1)
    (k : am_B E (am_rm f dc ds) (am_ZM E dc ds Qa) 0 (am_lo0 av E.2.2.1.2.2.1) [] h dc ds) : am_Ct E.1 E.2.2.1 f dc ds av h Qa := by
  intro l D cA sb base
  refine Met.ofW (cc := E.2.2.1.2.1) (maxL := E.2.2.1.2.2.1) (ret := E.2.2.1.2.2.2) hy rfl ?_
  intro p e s m args below meth c s₁ B hml hv
  obtain ⟨rfl, hR, hK⟩ := hv
  have hts := atoms_spec (ws := .code E.2.2.1.1 E.2.2.1.2.1 E.2.2.1.2.2.1 E.2.2.1.2.2.2 :: E.1.2) B.pre
  have hown : s.vm.findClass E.2.2.1.1.cls = some m.cls := findClass_of_methodNamed B.named
  have K := k hE l D cA sb base p e s m _ below meth c ⟨B.exec, B.bytes, hml, B.returns, hown, fun w hw => hts w (List.mem_cons_of_mem _ hw), hK, B.notSynchronized, (name_of_methodNamed B.named B.method).1⟩
    s.heap [] 0 0 _ hR va_S.rf (by show 0 + dc ≤ dc; omega) (by show 0 + ds ≤ ds; omega) (am_entry hn)
  rw [lg_entry_eq]
  exact K
section RULES
variable {E : am_E} {R : Room} {Z : am_Z} {pc : Nat} {lo lo' : am_L} {st st' : List Value} {h h' : am_H} {rc rs : Nat} {r : am_Row}
/-- one step that neither branches nor calls nor makes anything; heap steps as far as the cells lie open -/
def am_ffind : List am_FR → Nat → Option am_FR
  | [], _ => none
  | q :: t, i => bif Nat.beq q.1 i then some q else am_ffind t i
theorem am_ffind_ok : ∀ {t : List am_FR} {i : Nat} {q : am_FR}, am_ffind t i = some q → q ∈ t ∧ q.1 = i
  | [], _, _, h => nomatch h
  | q0 :: t, i, q, h => by
    unfold am_ffind at h
    cases e : Nat.beq q0.1 i <;> rw [e] at h <;> simp only [cond_true, cond_false] at h
    · have := am_ffind_ok h
      exact ⟨List.mem_cons_of_mem _ this.1, this.2⟩
    · cases h
      exact ⟨List.mem_cons_self, Nat.eq_of_beq_eq_true e⟩
/-- what kind an instruction is: 0 by itself, 1 a heap step, 2 a stop -/
def am_kind : Instr → Nat
  | .ifCond _ _ => 2 | .if_icmp _ _ => 2 | .if_acmp _ _ => 2 | .ifnull _ => 2 | .ifnonnull _ => 2 | .tableswitch _ _ _ _ => 2 | .lookupswitch _ _ => 2
  | .invokevirtual _ => 2 | .invokestatic _ => 2 | .invokespecial _ => 2 | .new _ => 2 | .newarray _ => 2 | .anewarray _ => 2 | .multianewarray _ _ => 2
  | .ireturn => 2 | .areturn => 2 | .lreturn => 2 | .dreturn => 2 | .return_ => 2 | .athrow => 2 | .aastore => 2 | .ddiv => 2 | .dsub => 2 | .irem => 3 | .idiv => 3
  | .getfield _ => 1 | .putfield _ => 1 | .iaload => 1 | .baload => 1 | .laload => 1 | .daload => 1 | .aaload => 1 | .iastore => 1 | .bastore => 1 | .lastore => 1 | .dastore => 1 | .arraylength => 1
  | _ => 0
def am_pure (r : am_Row) (lo : am_L) (st : List Value) : Option (Nat × am_L × List Value) := match am_push r lo with
  | some v => some (r.2.2.1, lo, v :: st)
  | none => match am_stk r.2.1 st with
    | some st' => some (r.2.2.1, lo, st')
    | none => match am_sto r.2.1 st lo with
      | some q => some (r.2.2.1, q.1, q.2)
      | none => match r.2.1 with
        | .goto _ => some (r.2.2.2.1, lo, st)
        | .iinc j _ => match r.2.2.2.2, lo[j]? with
          | .int y, some (some (.int x)) => match am_st1 lo j (.int (x + y)) with
            | some lo' => some (r.2.2.1, lo', st)
            | none => none
          | _, _ => none
        | _ => none
theorem am_B.pure {pc' : Nat} (hf : am_find E.2.2.2 pc = some r) (hp : am_pure r lo st = some (pc', lo', st')) (k : am_B E R Z pc' lo' st' h rc rs) : am_B E R Z pc lo st h rc rs := by
  intro ok l D cA sb base p e s m args below meth c C
  have K := k ok l D cA sb base p e s m args below meth c C
  obtain ⟨hm, rfl⟩ := am_find_ok hf
  have hr := ok.2.2 r hm
  obtain ⟨hx, hb, hml, hret, hown, hts, hK, hlk, hnm⟩ := C
  unfold am_pure at hp
  split at hp
  · rename_i v hv
    cases hp
    exact am_push_ok hx hb hown hts hr hv K
  · split at hp
    · rename_i s' hv
      cases hp
      exact am_stk_ok hx hb hr hv K
    · split at hp
      · rename_i q hv
        cases hp
        exact am_sto_ok hx hb hr hv K
      · split at hp
        · rename_i hi
          cases hp
          exact am_goto_ok hx hb hr hi K
        · rename_i j n hi
          split at hp
          · rename_i y x hy hj
            split at hp
            · rename_i lo1 hs
              cases hp
              exact am_iinc_ok hx hb hr hi hy hj hs K
            · cases hp
          · cases hp
        · cases hp
theorem am_B.get {a ci : Nat} {q : am_FR} {vs : List Value} {v : Value} (hf : am_find E.2.2.2 pc = some r) {i : Nat} (hi : r.2.1 = .getfield i) (hq : am_ffind E.2.1.1 i = some q) (ha : h[a]? = some (.inr (ci, vs))) (hci : ci = q.2.1) (hv : vs[q.2.2.1]? = some v)
    (k : am_B E R Z r.2.2.1 lo (v :: st) h rc rs) : am_B E R Z pc lo (.ref a :: st) h rc rs := by
  intro ok l D cA sb base p e s m args below meth c C
  have K := k ok l D cA sb base p e s m args below meth c C
  obtain ⟨hm, rfl⟩ := am_find_ok hf
  obtain ⟨hqm, rfl⟩ := am_ffind_ok hq
  obtain ⟨hx, hb, hml, hret, hown, hts, hK, hlk, hnm⟩ := C
  exact am_get_ok hx hb hown hts hK (ok.2.2 r hm) (ok.2.1.1 q hqm) hi ha hci hv K
theorem am_B.put {a ci : Nat} {q : am_FR} {vs : List Value} {v : Value} (hf : am_find E.2.2.2 pc = some r) {i : Nat} (hi : r.2.1 = .putfield i) (hq : am_ffind E.2.1.1 i = some q) (ha : h[a]? = some (.inr (ci, vs))) (hci : ci = q.2.1) (hv : q.2.2.1 < vs.length) (hfit : am_fit q.2.2.2.1 v = true)
    (hfin : q.2.2.2.2 = true → E.2.2.1.1.name = "<init>") (k : am_B E R Z r.2.2.1 lo st (h.set a (.inr (ci, vs.set q.2.2.1 v))) rc rs) : am_B E R Z pc lo (v :: .ref a :: st) h rc rs := by
  intro ok l D cA sb base p e s m args below meth c C
  have K := k ok l D cA sb base p e s m args below meth c C
  obtain ⟨hm, rfl⟩ := am_find_ok hf
  obtain ⟨hqm, rfl⟩ := am_ffind_ok hq
  obtain ⟨hx, hb, hml, hret, hown, hts, hK, hlk, hnm⟩ := C
  exact am_put_ok hx hb hown hts hK (ok.2.2 r hm) (ok.2.1.1 q hqm) hi (fun hh => hnm.trans (hfin hh)) ha hci hv hfit K
theorem am_B.ald {a t : Nat} {x : vp_A} {v : Value} {j : Int32} (hf : am_find E.2.2.2 pc = some r) (ha : h[a]? = some (.inl (t, x))) (hin : vp_in j x.1) (hv : am_aget r.2.1 t x j.toNatClampNeg = some v)
    (k : am_B E R Z r.2.2.1 lo (v :: st) h rc rs) : am_B E R Z pc lo (.int j :: .ref a :: st) h rc rs := by
  intro ok l D cA sb base p e s m args below meth c C
  have K := k ok l D cA sb base p e s m args below meth c C
  obtain ⟨hm, rfl⟩ := am_find_ok hf
  obtain ⟨hx, hb, hml, hret, hown, hts, hK, hlk, hnm⟩ := C
  exact am_ald_ok hx hb hK (ok.2.2 r hm) ha hin hv K
theorem am_B.ast {a t : Nat} {x y : vp_A} {v : Value} {j : Int32} (hf : am_find E.2.2.2 pc = some r) (ha : h[a]? = some (.inl (t, x))) (hin : vp_in j x.1) (hv : am_aset r.2.1 t x j.toNatClampNeg v = some y)
    (k : am_B E R Z r.2.2.1 lo st (h.set a (.inl (t, y))) rc rs) : am_B E R Z pc lo (v :: .int j :: .ref a :: st) h rc rs := by
  intro ok l D cA sb base p e s m args below meth c C
  have K := k ok l D cA sb base p e s m args below meth c C
  obtain ⟨hm, rfl⟩ := am_find_ok hf
  obtain ⟨hx, hb, hml, hret, hown, hts, hK, hlk, hnm⟩ := C
  exact am_ast_ok hx hb hK (ok.2.2 r hm) ha hin hv K
theorem am_B.alen {a t : Nat} {x : vp_A} (hf : am_find E.2.2.2 pc = some r) (hi : r.2.1 = .arraylength) (ha : h[a]? = some (.inl (t, x))) (ht : (t < 6 ∧ am_on t = true) ∨ t = 99)
    (k : am_B E R Z r.2.2.1 lo (.int (nI x.1) :: st) h rc rs) : am_B E R Z pc lo (.ref a :: st) h rc rs := by
  intro ok l D cA sb base p e s m args below meth c C
  have K := k ok l D cA sb base p e s m args below meth c C
  obtain ⟨hm, rfl⟩ := am_find_ok hf
  obtain ⟨hx, hb, hml, hret, hown, hts, hK, hlk, hnm⟩ := C
  exact am_alen_ok hx hb hK (ok.2.2 r hm) hi ha ht K
/-- as many steps as go by themselves; hp: heap steps too; sp: places where it stops -/
def am_in : List Nat → Nat → Bool
  | [], _ => false
  | a :: t, b => Nat.beq a b || am_in t b
def am_heap (FL : List am_FR) (r : am_Row) (st : List Value) (h : am_H) : Option (List Value × am_H) := match r.2.1, st with
  | .getfield i, .ref a :: st => match am_ffind FL i, h[a]? with
    | some q, some (.inr o) => bif Nat.beq o.1 q.2.1 then match o.2[q.2.2.1]? with
      | some v => some (v :: st, h)
      | none => none else none
    | _, _ => none
  | .putfield i, v :: .ref a :: st => match am_ffind FL i, h[a]? with
    | some q, some (.inr o) => bif Nat.beq o.1 q.2.1 && Nat.blt q.2.2.1 o.2.length && am_fit q.2.2.2.1 v && !q.2.2.2.2 then some (st, h.set a (.inr (o.1, o.2.set q.2.2.1 v))) else none
    | _, _ => none
  | .arraylength, .ref a :: st => match h[a]? with
    | some (.inl q) => bif (Nat.blt q.1 6 && am_on q.1) || Nat.beq q.1 99 then some (.int (nI q.2.1) :: st, h) else none
    | _ => none
  | _, _ => none
def am_run (FL : List am_FR) (tb : List am_Row) (hp : Bool) (sp : List Nat) : Nat → Nat → am_L → List Value → am_H → Option (Nat × am_L × List Value × am_H)
  | 0, pc, lo, st, h => some (pc, lo, st, h)
  | n + 1, pc, lo, st, h => match am_find tb pc with
    | none => some (pc, lo, st, h)
    | some r => match am_kind r.2.1 with
      | 0 => match am_pure r lo st with
        | some q => bif am_in sp q.1 then some (q.1, q.2.1, q.2.2, h) else am_run FL tb hp sp n q.1 q.2.1 q.2.2 h
        | none => none
      | 1 => bif hp then match am_heap FL r st h with
        | some q => am_run FL tb hp sp n r.2.2.1 lo q.1 q.2
        | none => some (pc, lo, st, h) else some (pc, lo, st, h)
      | _ => some (pc, lo, st, h)
theorem am_B.heap (hf : am_find E.2.2.2 pc = some r) (hp : am_heap E.2.1.1 r st h = some (st', h')) (k : am_B E R Z r.2.2.1 lo st' h' rc rs) : am_B E R Z pc lo st h rc rs := by
  unfold am_heap at hp
  split at hp
  · rename_i i a st hi
    split at hp
    · rename_i q o hq ho
      cases e : Nat.beq o.1 q.2.1 <;> rw [e] at hp <;> simp only [cond_true, cond_false] at hp
      · cases hp
      · split at hp
        · rename_i v hv
          cases hp
          exact am_B.get hf hi hq ho (Nat.eq_of_beq_eq_true e) hv k
        · cases hp
    · cases hp
  · rename_i i v a st hi
    split at hp
    · rename_i q o hq ho
      cases e : (Nat.beq o.1 q.2.1 && Nat.blt q.2.2.1 o.2.length && am_fit q.2.2.2.1 v && !q.2.2.2.2) <;> rw [e] at hp <;> simp only [cond_true, cond_false] at hp
      · cases hp
      · cases hp
        simp only [Bool.and_eq_true, Bool.not_eq_true'] at e
        obtain ⟨⟨⟨e1, e2⟩, e3⟩, e4⟩ := e
        exact am_B.put hf hi hq ho (Nat.eq_of_beq_eq_true e1) (Nat.le_of_ble_eq_true e2) e3 (fun hh => by rw [e4] at hh; cases hh) k
    · cases hp
  · rename_i a st hi
    split at hp
    · rename_i q ho
      cases e : ((Nat.blt q.1 6 && am_on q.1) || Nat.beq q.1 99) <;> rw [e] at hp <;> simp only [cond_true, cond_false] at hp
      · cases hp
      · cases hp
        refine am_B.alen hf hi ho ?_ k
        rcases Bool.or_eq_true_iff.mp e with e | e
        · simp only [Bool.and_eq_true] at e
          exact Or.inl ⟨Nat.le_of_ble_eq_true e.1, e.2⟩
        · exact Or.inr (Nat.eq_of_beq_eq_true e)
    · cases hp
  · cases hp
theorem am_B.run {hp : Bool} {sp : List Nat} : ∀ (n : Nat) {pc pc' : Nat} {lo lo' : am_L} {st st' : List Value} {h h' : am_H}, am_run E.2.1.1 E.2.2.2 hp sp n pc lo st h = some (pc', lo', st', h') → am_B E R Z pc' lo' st' h' rc rs → am_B E R Z pc lo st h rc rs
  | 0, _, _, _, _, _, _, _, _, hr, k => by
    simp only [am_run, Option.some.injEq, Prod.mk.injEq] at hr
    obtain ⟨rfl, rfl, rfl, rfl⟩ := hr
    exact k
  | n + 1, pc, pc', lo, lo', st, st', h, h', hr, k => by
    unfold am_run at hr
    split at hr
    · simp only [Option.some.injEq, Prod.mk.injEq] at hr
      obtain ⟨rfl, rfl, rfl, rfl⟩ := hr
      exact k
    · rename_i r hf
      split at hr
      · split at hr
        · rename_i q hq
          refine am_B.pure hf hq ?_
          cases e : am_in sp q.1 <;> rw [e] at hr <;> simp only [cond_true, cond_false] at hr
          · exact am_B.run n hr k
          · simp only [Option.some.injEq, Prod.mk.injEq] at hr
            obtain ⟨rfl, rfl, rfl, rfl⟩ := hr
            exact k
        · cases hr
      · cases hp <;> simp only [cond_true, cond_false] at hr
        · simp only [Option.some.injEq, Prod.mk.injEq] at hr
          obtain ⟨rfl, rfl, rfl, rfl⟩ := hr
          exact k
        · split at hr
          · rename_i q hq
            exact am_B.heap hf hq (am_B.run n hr k)
          · simp only [Option.some.injEq, Prod.mk.injEq] at hr
            obtain ⟨rfl, rfl, rfl, rfl⟩ := hr
            exact k
      · simp only [Option.some.injEq, Prod.mk.injEq] at hr
        obtain ⟨rfl, rfl, rfl, rfl⟩ := hr
        exact k
theorem am_B.if_eq {x : Int32} {off : Int} (hf : am_find E.2.2.2 pc = some r) (hi : r.2.1 = .ifCond .eq off) (kt : x = 0 → am_B E R Z r.2.2.2.1 lo st h rc rs) (kf : ¬ x = 0 → am_B E R Z r.2.2.1 lo st h rc rs) : am_B E R Z pc lo (.int x :: st) h rc rs := by
  intro ok l D cA sb base p e s m args below meth c C
  obtain ⟨hm, rfl⟩ := am_find_ok hf
  have hr := ok.2.2 r hm
  obtain ⟨pc, i, nx, tg, kv⟩ := r
  obtain ⟨hd, hn, hk⟩ := hr
  dsimp only at hd hn hi kt kf ⊢
  subst hi hn
  intro H locs cells slots ls hR hS h1 h2 hl
  exact lv_if_eq C.1 C.2.1 hd (of_decide_eq_true hk) (fun q => kt q ok l D cA sb base p e s m args below meth c C H locs cells slots ls hR hS h1 h2 hl) (fun q => kf q ok l D cA sb base p e s m args below meth c C H locs cells slots ls hR hS h1 h2 hl)
theorem am_B.icmp_eq {x y : Int32} {off : Int} (hf : am_find E.2.2.2 pc = some r) (hi : r.2.1 = .if_icmp .eq off) (kt : x = y → am_B E R Z r.2.2.2.1 lo st h rc rs) (kf : ¬ x = y → am_B E R Z r.2.2.1 lo st h rc rs) : am_B E R Z pc lo (.int y :: .int x :: st) h rc rs := by
  intro ok l D cA sb base p e s m args below meth c C
  obtain ⟨hm, rfl⟩ := am_find_ok hf
  have hr := ok.2.2 r hm
  obtain ⟨pc, i, nx, tg, kv⟩ := r
  obtain ⟨hd, hn, hk⟩ := hr
  dsimp only at hd hn hi kt kf ⊢
  subst hi hn
  intro H locs cells slots ls hR hS h1 h2 hl
  exact lv_icmp_eq C.1 C.2.1 hd (of_decide_eq_true hk) (fun q => kt q ok l D cA sb base p e s m args below meth c C H locs cells slots ls hR hS h1 h2 hl) (fun q => kf q ok l D cA sb base p e s m args below meth c C H locs cells slots ls hR hS h1 h2 hl)
theorem am_B.if_ne {x : Int32} {off : Int} (hf : am_find E.2.2.2 pc = some r) (hi : r.2.1 = .ifCond .ne off) (kt : ¬ x = 0 → am_B E R Z r.2.2.2.1 lo st h rc rs) (kf : x = 0 → am_B E R Z r.2.2.1 lo st h rc rs) : am_B E R Z pc lo (.int x :: st) h rc rs := by
  intro ok l D cA sb base p e s m args below meth c C
  obtain ⟨hm, rfl⟩ := am_find_ok hf
  have hr := ok.2.2 r hm
  obtain ⟨pc, i, nx, tg, kv⟩ := r
  obtain ⟨hd, hn, hk⟩ := hr
  dsimp only at hd hn hi kt kf ⊢
  subst hi hn
  intro H locs cells slots ls hR hS h1 h2 hl
  exact lv_if_ne C.1 C.2.1 hd (of_decide_eq_true hk) (fun q => kt q ok l D cA sb base p e s m args below meth c C H locs cells slots ls hR hS h1 h2 hl) (fun q => kf q ok l D cA sb base p e s m args below meth c C H locs cells slots ls hR hS h1 h2 hl)
theorem am_B.icmp_ne {x y : Int32} {off : Int} (hf : am_find E.2.2.2 pc = some r) (hi : r.2.1 = .if_icmp .ne off) (kt : ¬ x = y → am_B E R Z r.2.2.2.1 lo st h rc rs) (kf : x = y → am_B E R Z r.2.2.1 lo st h rc rs) : am_B E R Z pc lo (.int y :: .int x :: st) h rc rs := by
  intro ok l D cA sb base p e s m args below meth c C
  obtain ⟨hm, rfl⟩ := am_find_ok hf
  have hr := ok.2.2 r hm
  obtain ⟨pc, i, nx, tg, kv⟩ := r
  obtain ⟨hd, hn, hk⟩ := hr
  dsimp only at hd hn hi kt kf ⊢
  subst hi hn
  intro H locs cells slots ls hR hS h1 h2 hl
  exact lv_icmp_ne C.1 C.2.1 hd (of_decide_eq_true hk) (fun q => kt q ok l D cA sb base p e s m args below meth c C H locs cells slots ls hR hS h1 h2 hl) (fun q => kf q ok l D cA sb base p e s m args below meth c C H locs cells slots ls hR hS h1 h2 hl)
theorem am_B.if_lt {x : Int32} {off : Int} (hf : am_find E.2.2.2 pc = some r) (hi : r.2.1 = .ifCond .lt off) (kt : x < 0 → am_B E R Z r.2.2.2.1 lo st h rc rs) (kf : ¬ x < 0 → am_B E R Z r.2.2.1 lo st h rc rs) : am_B E R Z pc lo (.int x :: st) h rc rs := by
  intro ok l D cA sb base p e s m args below meth c C
  obtain ⟨hm, rfl⟩ := am_find_ok hf
  have hr := ok.2.2 r hm
  obtain ⟨pc, i, nx, tg, kv⟩ := r
  obtain ⟨hd, hn, hk⟩ := hr
  dsimp only at hd hn hi kt kf ⊢
  subst hi hn
  intro H locs cells slots ls hR hS h1 h2 hl
  exact lv_if_lt C.1 C.2.1 hd (of_decide_eq_true hk) (fun q => kt q ok l D cA sb base p e s m args below meth c C H locs cells slots ls hR hS h1 h2 hl) (fun q => kf q ok l D cA sb base p e s m args below meth c C H locs cells slots ls hR hS h1 h2 hl)
theorem am_B.icmp_lt {x y : Int32} {off : Int} (hf : am_find E.2.2.2 pc = some r) (hi : r.2.1 = .if_icmp .lt off) (kt : x < y → am_B E R Z r.2.2.2.1 lo st h rc rs) (kf : ¬ x < y → am_B E R Z r.2.2.1 lo st h rc rs) : am_B E R Z pc lo (.int y :: .int x :: st) h rc rs := by
  intro ok l D cA sb base p e s m args below meth c C
  obtain ⟨hm, rfl⟩ := am_find_ok hf
  have hr := ok.2.2 r hm
  obtain ⟨pc, i, nx, tg, kv⟩ := r
  obtain ⟨hd, hn, hk⟩ := hr
  dsimp only at hd hn hi kt kf ⊢
  subst hi hn
  intro H locs cells slots ls hR hS h1 h2 hl
  exact lv_icmp_lt C.1 C.2.1 hd (of_decide_eq_true hk) (fun q => kt q ok l D cA sb base p e s m args below meth c C H locs cells slots ls hR hS h1 h2 hl) (fun q => kf q ok l D cA sb base p e s m args below meth c C H locs cells slots ls hR hS h1 h2 hl)
theorem am_B.if_ge {x : Int32} {off : Int} (hf : am_find E.2.2.2 pc = some r) (hi : r.2.1 = .ifCond .ge off) (kt : 0 ≤ x → am_B E R Z r.2.2.2.1 lo st h rc rs) (kf : ¬ 0 ≤ x → am_B E R Z r.2.2.1 lo st h rc rs) : am_B E R Z pc lo (.int x :: st) h rc rs := by
  intro ok l D cA sb base p e s m args below meth c C
  obtain ⟨hm, rfl⟩ := am_find_ok hf
  have hr := ok.2.2 r hm
  obtain ⟨pc, i, nx, tg, kv⟩ := r
  obtain ⟨hd, hn, hk⟩ := hr
  dsimp only at hd hn hi kt kf ⊢
  subst hi hn
  intro H locs cells slots ls hR hS h1 h2 hl
  exact lv_if_ge C.1 C.2.1 hd (of_decide_eq_true hk) (fun q => kt q ok l D cA sb base p e s m args below meth c C H locs cells slots ls hR hS h1 h2 hl) (fun q => kf q ok l D cA sb base p e s m args below meth c C H locs cells slots ls hR hS h1 h2 hl)
theorem am_B.icmp_ge {x y : Int32} {off : Int} (hf : am_find E.2.2.2 pc = some r) (hi : r.2.1 = .if_icmp .ge off) (kt : y ≤ x → am_B E R Z r.2.2.2.1 lo st h rc rs) (kf : ¬ y ≤ x → am_B E R Z r.2.2.1 lo st h rc rs) : am_B E R Z pc lo (.int y :: .int x :: st) h rc rs := by
  intro ok l D cA sb base p e s m args below meth c C
  obtain ⟨hm, rfl⟩ := am_find_ok hf
  have hr := ok.2.2 r hm
  obtain ⟨pc, i, nx, tg, kv⟩ := r
  obtain ⟨hd, hn, hk⟩ := hr
  dsimp only at hd hn hi kt kf ⊢
  subst hi hn
  intro H locs cells slots ls hR hS h1 h2 hl
  exact lv_icmp_ge C.1 C.2.1 hd (of_decide_eq_true hk) (fun q => kt q ok l D cA sb base p e s m args below meth c C H locs cells slots ls hR hS h1 h2 hl) (fun q => kf q ok l D cA sb base p e s m args below meth c C H locs cells slots ls hR hS h1 h2 hl)
theorem am_B.if_gt {x : Int32} {off : Int} (hf : am_find E.2.2.2 pc = some r) (hi : r.2.1 = .ifCond .gt off) (kt : 0 < x → am_B E R Z r.2.2.2.1 lo st h rc rs) (kf : ¬ 0 < x → am_B E R Z r.2.2.1 lo st h rc rs) : am_B E R Z pc lo (.int x :: st) h rc rs := by
  intro ok l D cA sb base p e s m args below meth c C
  obtain ⟨hm, rfl⟩ := am_find_ok hf
  have hr := ok.2.2 r hm
  obtain ⟨pc, i, nx, tg, kv⟩ := r
  obtain ⟨hd, hn, hk⟩ := hr
  dsimp only at hd hn hi kt kf ⊢
  subst hi hn
  intro H locs cells slots ls hR hS h1 h2 hl
  exact lv_if_gt C.1 C.2.1 hd (of_decide_eq_true hk) (fun q => kt q ok l D cA sb base p e s m args below meth c C H locs cells slots ls hR hS h1 h2 hl) (fun q => kf q ok l D cA sb base p e s m args below meth c C H locs cells slots ls hR hS h1 h2 hl)
theorem am_B.icmp_gt {x y : Int32} {off : Int} (hf : am_find E.2.2.2 pc = some r) (hi : r.2.1 = .if_icmp .gt off) (kt : y < x → am_B E R Z r.2.2.2.1 lo st h rc rs) (kf : ¬ y < x → am_B E R Z r.2.2.1 lo st h rc rs) : am_B E R Z pc lo (.int y :: .int x :: st) h rc rs := by
  intro ok l D cA sb base p e s m args below meth c C
  obtain ⟨hm, rfl⟩ := am_find_ok hf
  have hr := ok.2.2 r hm
  obtain ⟨pc, i, nx, tg, kv⟩ := r
  obtain ⟨hd, hn, hk⟩ := hr
  dsimp only at hd hn hi kt kf ⊢
  subst hi hn
  intro H locs cells slots ls hR hS h1 h2 hl
  exact lv_icmp_gt C.1 C.2.1 hd (of_decide_eq_true hk) (fun q => kt q ok l D cA sb base p e s m args below meth c C H locs cells slots ls hR hS h1 h2 hl) (fun q => kf q ok l D cA sb base p e s m args below meth c C H locs cells slots ls hR hS h1 h2 hl)
theorem am_B.if_le {x : Int32} {off : Int} (hf : am_find E.2.2.2 pc = some r) (hi : r.2.1 = .ifCond .le off) (kt : x ≤ 0 → am_B E R Z r.2.2.2.1 lo st h rc rs) (kf : ¬ x ≤ 0 → am_B E R Z r.2.2.1 lo st h rc rs) : am_B E R Z pc lo (.int x :: st) h rc rs := by
  intro ok l D cA sb base p e s m args below meth c C
  obtain ⟨hm, rfl⟩ := am_find_ok hf
  have hr := ok.2.2 r hm
  obtain ⟨pc, i, nx, tg, kv⟩ := r
  obtain ⟨hd, hn, hk⟩ := hr
  dsimp only at hd hn hi kt kf ⊢
  subst hi hn
  intro H locs cells slots ls hR hS h1 h2 hl
  exact lv_if_le C.1 C.2.1 hd (of_decide_eq_true hk) (fun q => kt q ok l D cA sb base p e s m args below meth c C H locs cells slots ls hR hS h1 h2 hl) (fun q => kf q ok l D cA sb base p e s m args below meth c C H locs cells slots ls hR hS h1 h2 hl)
theorem am_B.icmp_le {x y : Int32} {off : Int} (hf : am_find E.2.2.2 pc = some r) (hi : r.2.1 = .if_icmp .le off) (kt : x ≤ y → am_B E R Z r.2.2.2.1 lo st h rc rs) (kf : ¬ x ≤ y → am_B E R Z r.2.2.1 lo st h rc rs) : am_B E R Z pc lo (.int y :: .int x :: st) h rc rs := by
  intro ok l D cA sb base p e s m args below meth c C
  obtain ⟨hm, rfl⟩ := am_find_ok hf
  have hr := ok.2.2 r hm
  obtain ⟨pc, i, nx, tg, kv⟩ := r
  obtain ⟨hd, hn, hk⟩ := hr
  dsimp only at hd hn hi kt kf ⊢
  subst hi hn
  intro H locs cells slots ls hR hS h1 h2 hl
  exact lv_icmp_le C.1 C.2.1 hd (of_decide_eq_true hk) (fun q => kt q ok l D cA sb base p e s m args below meth c C H locs cells slots ls hR hS h1 h2 hl) (fun q => kf q ok l D cA sb base p e s m args below meth c C H locs cells slots ls hR hS h1 h2 hl)
end RULES
end
section
/-! THE PLAIN MACHINE: calls, what is made, ends. -/
def am_fits (R : Room) (f maxL : Nat) : Bool := Nat.ble (f + 1) R.frames && Nat.ble (8 + (maxL + 11) + 36 * f) R.locals
def am_wd (st : List Value) : Nat := (st.map fun v => v.category).sum
theorem am_wd_cv (sb base : Nat) : ∀ st : List Value, ((st.map (am_cv sb base)).map fun v => v.category).sum = am_wd st
  | [] => rfl
  | v :: t => by
    simp only [List.map_cons, List.sum_cons, am_wd, am_cv_cat]
    have := am_wd_cv sb base t
    unfold am_wd at this
    rw [this]
def am_mfind : List am_MR → Nat → Option am_MR
  | [], _ => none
  | q :: t, i => bif Nat.beq q.1 i then some q else am_mfind t i
theorem am_mfind_ok : ∀ {t : List am_MR} {i : Nat} {q : am_MR}, am_mfind t i = some q → q ∈ t ∧ q.1 = i
  | [], _, _, h => nomatch h
  | q0 :: t, i, q, h => by
    unfold am_mfind at h
    cases e : Nat.beq q0.1 i <;> rw [e] at h <;> simp only [cond_true, cond_false] at h
    · have := am_mfind_ok h
      exact ⟨List.mem_cons_of_mem _ this.1, this.2⟩
    · cases h
      exact ⟨List.mem_cons_self, Nat.eq_of_beq_eq_true e⟩
def am_nfind : List am_NR → Nat → Option am_NR
  | [], _ => none
  | q :: t, i => bif Nat.beq q.1 i then some q else am_nfind t i
theorem am_nfind_ok : ∀ {t : List am_NR} {i : Nat} {q : am_NR}, am_nfind t i = some q → q ∈ t ∧ q.1 = i
  | [], _, _, h => nomatch h
  | q0 :: t, i, q, h => by
    unfold am_nfind at h
    cases e : Nat.beq q0.1 i <;> rw [e] at h <;> simp only [cond_true, cond_false] at h
    · have := am_nfind_ok h
      exact ⟨List.mem_cons_of_mem _ this.1, this.2⟩
    · cases h
      exact ⟨List.mem_cons_self, Nat.eq_of_beq_eq_true e⟩
theorem am_blind {D : va_G} {cl : List vw_C} {cA : Nat → ClassId} {sb base : Nat} {h : am_H} {av : List Value} : FrameBlind (va_Pc av (fun U => am_R D cl cA sb base U h U.heap ∧ am_K D cl cA am_tys U)) :=
  fun a U g mk q => ⟨q.1, am_R.moved (u := U) (U := U.calling g mk a) (Vm.Alike.refl U.vm) q.2.1, am_K.moved (u := U) (U := U.calling g mk a) (State.WarmedH.refl U) q.2.2⟩
section AMC
variable {D : va_G} {cl : List vw_C} {cA : Nat → ClassId} {sb base : Nat} {p : Program} {l : Launch} {e : Env} {R : Room} {s : State} {m : MethodId} {args : Array Value} {below : List Frame} {meth : Method} {c : Code} {Q : State → Prop}
/-- behind a call -/
theorem am_back {H : Heap} {locs : List Loc} {cells slots mc ms pc : Nat} {ls : Array Slot} {st0 rest : List Value} {a : Array Value} {Qa : Option Value → am_H → Prop}
    (hr : va_Run p l e R s m args below meth c H locs cells slots mc ms (F0 m pc ls st0) (rest.map (am_cv sb base)) (am_Qc D cl cA sb base Qa a) (fun q => base ≤ q)) (hS : va_S (fun q => base ≤ q) s.heap H locs)
    (kk : ∀ (v : Option Value) (h' : am_H) (H1 : Heap) (locs1 : List Loc), Qa v h' → am_R D cl cA sb base s h' H1 → va_S (fun q => base ≤ q) s.heap H1 locs1 → W p l e R s m args below meth c H1 locs1 (cells + mc) (slots + ms) Q (F0 m (pc + 3) ls ((v.toList ++ rest).map (am_cv sb base)))) :
    W p l e R s m args below meth c H locs cells slots Q (F0 m pc ls st0) := by
  intro T hT X
  obtain ⟨v, st₀, t, T', L, h0, X', hL, e1, e2, ⟨⟨v', h', ev, hQ, hR, hK⟩, hz, hk⟩, st⟩ := hr T hT X
  cases ev
  rw [h0] at hz hk
  have hal : t.vm.Alike s.vm := by rw [← e2]; exact X'.warmed.alike.symm
  obtain ⟨t2, a1, b1⟩ := kk v' h' T'.heap (locs ++ L) hQ (by rw [e1]; exact hR.moved hal)
    ⟨Nat.le_trans hS.1 (by rw [e1]; exact hz), fun q h1 h2 => by rw [e1, hk q (Nat.lt_of_lt_of_le h1 hS.1) h2]; exact hS.2.1 q h1 h2, fun q hq => by
      rcases List.mem_append.mp hq with h | h
      · exact hS.2.2 q h
      · exact hL q h⟩ T' rfl X'
  refine ⟨t2, st t2 ?_, b1⟩
  have e5 : (v'.map (am_cv sb base)).toList ++ rest.map (am_cv sb base) = (v'.toList ++ rest).map (am_cv sb base) := by cases v' <;> rfl
  rw [e5]
  exact a1
end AMC
section CALLS
variable {E : am_E} {R : Room} {Z : am_Z} {pc : Nat} {lo lo' : am_L} {st rest : List Value} {h : am_H} {rc rs : Nat} {r : am_Row}
theorem am_good {G : List vw_C × List Jvm.Cond} {y : MethodName} {cc : ByteArray} {maxL : Nat} {ret : Option FieldType} (hg : ∀ w ∈ G.2, goodWord w = true) (hc : Jvm.Cond.code y cc maxL ret ∈ G.2) : GoodIn G.2 (.code y cc maxL ret :: G.2) := by
  intro w hw
  rcases List.mem_cons.mp hw with rfl | hw
  · exact ⟨hc, good_of_word (hg _ hc)⟩
  · exact ⟨hw, good_of_word (hg _ hw)⟩
theorem am_fits_ok {R : Room} {f maxL : Nat} (h : am_fits R f maxL = true) : f + 1 ≤ R.frames ∧ 8 + (maxL + 11) + 36 * f ≤ R.locals := by
  simp only [am_fits, Bool.and_eq_true] at h
  exact ⟨Nat.le_of_ble_eq_true h.1, Nat.le_of_ble_eq_true h.2⟩
/-- a method of an object -/
theorem am_B.callV {i ci n f dc ds a : Nat} {M : am_M} {as : List Value} {vs : List Value} {Qa : Option Value → am_H → Prop} (hf : am_find E.2.2.2 pc = some r) (hi : r.2.1 = .invokevirtual i) (hm : am_mfind E.2.1.2.2 i = some (i, 0, ci, n, M)) (hc : am_Ct E.1 M f dc ds (.ref a :: as) h Qa)
    (hst : st = as.reverse ++ .ref a :: rest) (hn : as.length = n) (hw : am_wd rest ≤ 8) (hfit : am_fits R f M.2.2.1 = true) (ha : h[a]? = some (.inr (ci, vs))) {rc0 rs0 : Nat} (hrc : rc + dc = rc0) (hrs : rs + ds = rs0) (k : ∀ v h', Qa v h' → am_B E R Z (pc + 3) lo (v.toList ++ rest) h' rc rs) : am_B E R Z pc lo st h rc0 rs0 := by
  subst hrc; subst hrs
  intro ok l D cA sb base p e s m args below meth c C H locs cells slots ls hR hS h1 h2 hl
  obtain ⟨hm0, rfl⟩ := am_find_ok hf
  obtain ⟨hd, -, -⟩ := ok.2.2 r hm0
  obtain ⟨hq, -⟩ := am_mfind_ok hm
  obtain ⟨hcode, hdes, hini, hlink, hinst, hsel, hcl⟩ := ok.2.1.2.2 _ hq
  dsimp only at hcode hdes hini hlink hinst hsel hcl
  have C0 := C
  obtain ⟨hx, hb, hml, hret, hown, hts, hK, hlk, hnm⟩ := C
  rw [hi] at hd
  subst hst
  have hfr := am_fits_ok hfit
  obtain ⟨q, hq1, hq2⟩ : ∃ q, E.1.1[ci]? = some q ∧ q.1 = M.1.cls := by
    cases hz : E.1.1[ci]? with
    | none => rw [hz] at hcl; cases hcl
    | some q => rw [hz] at hcl; exact ⟨q, rfl, Option.some.inj hcl⟩
  obtain ⟨r', hr', cell, g1, g2, g3, -⟩ := hR.2.2.2 a _ ha
  refine am_back (va_runV (C := M.1.cls) (As := as.map (am_cv sb base)) (rest := rest.map (am_cv sb base)) ⟨hx, hb, hml, hown, hts⟩ (hc l D cA sb base)
    ⟨callB_of n hts (am_good ok.1 hcode) rfl rfl rfl (hts _ hini) (hts _ hlink) hdes hfr, hts _ hinst, hts _ hsel⟩
    ⟨am_blind, ⟨cell, g1, by rw [g3]; rfl, by rw [g2, ← hq2]; exact (hK.1 ci q hq1).2.1⟩, fun U hU hW => ⟨rfl, by rw [hU]; exact hR.moved hW.alike, hK.moved hW⟩⟩ rfl (by rw [List.length_map]; exact hn) hl.2.1 (by simp [am_cv]) ?_ hd ⟨by omega, by omega⟩) hS
    (fun v h' H1 locs1 hQ hR1 hS1 => k v h' hQ ok l D cA sb base p e s m args below meth c C0 H1 locs1 (cells + dc) (slots + ds) ls hR1 hS1 (by omega) (by omega) hl)
  show 2 * 0 + _ ≤ 8
  rw [am_wd_cv]
  omega
/-- a static method -/
theorem am_B.callS {i ci n f dc ds : Nat} {M : am_M} {as : List Value} {Qa : Option Value → am_H → Prop} (hf : am_find E.2.2.2 pc = some r) (hi : r.2.1 = .invokestatic i) (hm : am_mfind E.2.1.2.2 i = some (i, 1, ci, n, M)) (hc : am_Ct E.1 M f dc ds as h Qa)
    (hst : st = as.reverse ++ rest) (hn : as.length = n) (hw : am_wd rest ≤ 8) (hfit : am_fits R f M.2.2.1 = true) {rc0 rs0 : Nat} (hrc : rc + dc = rc0) (hrs : rs + ds = rs0) (k : ∀ v h', Qa v h' → am_B E R Z (pc + 3) lo (v.toList ++ rest) h' rc rs) : am_B E R Z pc lo st h rc0 rs0 := by
  subst hrc; subst hrs
  intro ok l D cA sb base p e s m args below meth c C H locs cells slots ls hR hS h1 h2 hl
  obtain ⟨hm0, rfl⟩ := am_find_ok hf
  obtain ⟨hd, -, -⟩ := ok.2.2 r hm0
  obtain ⟨hq, -⟩ := am_mfind_ok hm
  obtain ⟨hcode, hdes, hini, hlink, hstt⟩ := ok.2.1.2.2 _ hq
  dsimp only at hcode hdes hini hlink hstt
  have C0 := C
  obtain ⟨hx, hb, hml, hret, hown, hts, hK, hlk, hnm⟩ := C
  rw [hi] at hd
  subst hst
  have hfr := am_fits_ok hfit
  refine am_back (va_runS (As := as.map (am_cv sb base)) (rest := rest.map (am_cv sb base)) ⟨hx, hb, hml, hown, hts⟩ (hc l D cA sb base)
    ⟨callB_of n hts (am_good ok.1 hcode) rfl rfl rfl (hts _ hini) (hts _ hlink) hdes hfr, hts _ hstt⟩
    ⟨am_blind, fun U hU hW => ⟨rfl, by rw [hU]; exact hR.moved hW.alike, hK.moved hW⟩⟩ rfl (by rw [List.length_map]; exact hn) hl.2.1 (by simp) ?_ hd ⟨by omega, by omega⟩) hS
    (fun v h' H1 locs1 hQ hR1 hS1 => k v h' hQ ok l D cA sb base p e s m args below meth c C0 H1 locs1 (cells + dc) (slots + ds) ls hR1 hS1 (by omega) (by omega) hl)
  show 2 * 0 + _ ≤ 8
  rw [am_wd_cv]
  omega
theorem am_B.callSN {i ci n f dc ds : Nat} {M : am_M} {as : List Value} {Qa : Option Value → am_H → Prop} (hf : am_find E.2.2.2 pc = some r) (hi : r.2.1 = .invokestatic i) (hm : am_mfind E.2.1.2.2 i = some (i, 4, ci, n, M)) (hc : am_Ct E.1 M f dc ds as h Qa)
    (hst : st = as.reverse ++ rest) (hn : as.length = n) (hw : am_wd rest ≤ 8) (hfit : am_fits R f M.2.2.1 = true) {rc0 rs0 : Nat} (hrc : rc + dc = rc0) (hrs : rs + ds = rs0) (k : ∀ v h', Qa v h' → am_B E R Z (pc + 3) lo (v.toList ++ rest) h' rc rs) : am_B E R Z pc lo st h rc0 rs0 := by
  subst hrc; subst hrs
  intro ok l D cA sb base p e s m args below meth c C H locs cells slots ls hR hS h1 h2 hl
  obtain ⟨hm0, rfl⟩ := am_find_ok hf
  obtain ⟨hd, -, -⟩ := ok.2.2 r hm0
  obtain ⟨hq, -⟩ := am_mfind_ok hm
  obtain ⟨hcode, hdes, hini, host, hlink, hstt⟩ := ok.2.1.2.2 _ hq
  dsimp only at hcode hdes hini hlink hstt
  have C0 := C
  obtain ⟨hx, hb, hml, hret, hown, hts, hK, hlk, hnm⟩ := C
  rw [hi] at hd
  subst hst
  have hfr := am_fits_ok hfit
  refine am_back (va_runSN (As := as.map (am_cv sb base)) (rest := rest.map (am_cv sb base)) ⟨hx, hb, hml, hown, hts⟩ (hc l D cA sb base)
    ⟨va_cnB n hts (am_good ok.1 hcode) rfl rfl rfl (hK.2.2.1 _ hlink) (hts _ hini) hdes hfr, hts _ hstt, trivial⟩
    ⟨am_blind, fun U hU hW => ⟨rfl, by rw [hU]; exact hR.moved hW.alike, hK.moved hW⟩⟩ rfl (by rw [List.length_map]; exact hn) hl.2.1 (by simp) ?_ hd ⟨by omega, by omega⟩) hS
    (fun v h' H1 locs1 hQ hR1 hS1 => k v h' hQ ok l D cA sb base p e s m args below meth c C0 H1 locs1 (cells + dc) (slots + ds) ls hR1 hS1 (by omega) (by omega) hl)
  show 2 * 0 + _ ≤ 8
  rw [am_wd_cv]
  omega
/-- a constructor -/
theorem am_B.callI {i ci n f dc ds a : Nat} {M : am_M} {as : List Value} {Qa : Option Value → am_H → Prop} (hf : am_find E.2.2.2 pc = some r) (hi : r.2.1 = .invokespecial i) (hm : am_mfind E.2.1.2.2 i = some (i, 2, ci, n, M)) (hc : am_Ct E.1 M f dc ds (.ref a :: as) h Qa)
    (hst : st = as.reverse ++ .ref a :: rest) (hn : as.length = n) (hw : am_wd rest ≤ 8) (hfit : am_fits R f M.2.2.1 = true) {rc0 rs0 : Nat} (hrc : rc + dc = rc0) (hrs : rs + ds = rs0) (k : ∀ v h', Qa v h' → am_B E R Z (pc + 3) lo (v.toList ++ rest) h' rc rs) : am_B E R Z pc lo st h rc0 rs0 := by
  subst hrc; subst hrs
  intro ok l D cA sb base p e s m args below meth c C H locs cells slots ls hR hS h1 h2 hl
  obtain ⟨hm0, rfl⟩ := am_find_ok hf
  obtain ⟨hd, -, -⟩ := ok.2.2 r hm0
  obtain ⟨hq, -⟩ := am_mfind_ok hm
  obtain ⟨hcode, hdes, hini, hlink, hinst, hy1, hy2⟩ := ok.2.1.2.2 _ hq
  obtain ⟨y, cc, maxL, ret⟩ := M
  dsimp only at hcode hdes hini hlink hinst hy1 hy2
  subst hy2
  have C0 := C
  obtain ⟨hx, hb, hml, hret, hown, hts, hK, hlk, hnm⟩ := C
  rw [hi] at hd
  subst hst
  have hfr := am_fits_ok hfit
  refine am_back (va_runI (As := as.map (am_cv sb base)) (rest := rest.map (am_cv sb base)) ⟨hx, hb, hml, hown, hts⟩ (hc l D cA sb base)
    ⟨callB_of n hts (am_good ok.1 hcode) rfl rfl rfl (hts _ hini) (hts _ hlink) hdes hfr, hy1, hts _ hinst⟩
    ⟨am_blind, fun U hU hW => ⟨rfl, by rw [hU]; exact hR.moved hW.alike, hK.moved hW⟩⟩ rfl (by rw [List.length_map]; exact hn) hl.2.1 (by simp [am_cv]) ?_ hd ⟨by omega, by omega⟩) hS
    (fun v h' H1 locs1 hQ hR1 hS1 => k v h' hQ ok l D cA sb base p e s m args below meth c C0 H1 locs1 (cells + dc) (slots + ds) ls hR1 hS1 (by omega) (by omega) hl)
  show 2 * 0 + _ ≤ 8
  rw [am_wd_cv]
  omega
theorem am_B.callIN {i ci n f dc ds a : Nat} {M : am_M} {as : List Value} {Qa : Option Value → am_H → Prop} (hf : am_find E.2.2.2 pc = some r) (hi : r.2.1 = .invokespecial i) (hm : am_mfind E.2.1.2.2 i = some (i, 5, ci, n, M)) (hc : am_Ct E.1 M f dc ds (.ref a :: as) h Qa)
    (hst : st = as.reverse ++ .ref a :: rest) (hn : as.length = n) (hw : am_wd rest ≤ 8) (hfit : am_fits R f M.2.2.1 = true) {rc0 rs0 : Nat} (hrc : rc + dc = rc0) (hrs : rs + ds = rs0) (k : ∀ v h', Qa v h' → am_B E R Z (pc + 3) lo (v.toList ++ rest) h' rc rs) : am_B E R Z pc lo st h rc0 rs0 := by
  subst hrc; subst hrs
  intro ok l D cA sb base p e s m args below meth c C H locs cells slots ls hR hS h1 h2 hl
  obtain ⟨hm0, rfl⟩ := am_find_ok hf
  obtain ⟨hd, -, -⟩ := ok.2.2 r hm0
  obtain ⟨hq, -⟩ := am_mfind_ok hm
  obtain ⟨hcode, hdes, hini, host, hlink, hinst, hy1, hy2⟩ := ok.2.1.2.2 _ hq
  obtain ⟨y, cc, maxL, ret⟩ := M
  dsimp only at hcode hdes hini hlink hinst hy1 hy2
  subst hy2
  have C0 := C
  obtain ⟨hx, hb, hml, hret, hown, hts, hK, hlk, hnm⟩ := C
  rw [hi] at hd
  subst hst
  have hfr := am_fits_ok hfit
  refine am_back (va_runIN (As := as.map (am_cv sb base)) (rest := rest.map (am_cv sb base)) ⟨hx, hb, hml, hown, hts⟩ (hc l D cA sb base)
    ⟨va_cnB n hts (am_good ok.1 hcode) rfl rfl rfl (hK.2.2.1 _ hlink) (hts _ hini) hdes hfr, hy1, hts _ hinst⟩
    ⟨am_blind, fun U hU hW => ⟨rfl, by rw [hU]; exact hR.moved hW.alike, hK.moved hW⟩⟩ rfl (by rw [List.length_map]; exact hn) hl.2.1 (by simp [am_cv]) ?_ hd ⟨by omega, by omega⟩) hS
    (fun v h' H1 locs1 hQ hR1 hS1 => k v h' hQ ok l D cA sb base p e s m args below meth c C0 H1 locs1 (cells + dc) (slots + ds) ls hR1 hS1 (by omega) (by omega) hl)
  show 2 * 0 + _ ≤ 8
  rw [am_wd_cv]
  omega
/-- Object's own constructor -/
theorem am_B.obji {i a : Nat} (hf : am_find E.2.2.2 pc = some r) (hi : r.2.1 = .invokespecial i) (hl1 : Jvm.Cond.methodLink E.2.2.1.1.cls i objectInit ∈ E.1.2) (hl2 : Jvm.Cond.instanceMethod objectInit ∈ E.1.2) (hl3 : Jvm.Cond.code objectInit ⟨#[0xb1]⟩ 1 none ∈ E.1.2) (hw : am_wd rest ≤ 8) (hR1 : (Nat.ble 1 R.frames && Nat.ble 20 R.locals) = true)
    (k : am_B E R Z (pc + 3) lo rest h rc rs) : am_B E R Z pc lo (.ref a :: rest) h rc rs := by
  intro ok l D cA sb base p e s m args below meth c C H locs cells slots ls hR hS h1 h2 hl
  have K := k ok l D cA sb base p e s m args below meth c C H locs cells slots ls hR hS h1 h2 hl
  obtain ⟨hm0, rfl⟩ := am_find_ok hf
  obtain ⟨hd, -, -⟩ := ok.2.2 r hm0
  obtain ⟨hx, hb, hml, hret, hown, hts, hK, hlk, hnm⟩ := C
  rw [hi] at hd
  simp only [Bool.and_eq_true] at hR1
  have r1 := Nat.le_of_ble_eq_true hR1.1
  have r2 := Nat.le_of_ble_eq_true hR1.2
  refine W.objInit hx hb hown (hts _ hl1) (hts _ hl2) (hts _ hl3) rfl (by rw [hml]; exact hl.2.1) rfl hd r1 ?_ K
  show 2 * 0 + _ + 12 ≤ _
  rw [am_wd_cv]
  omega
/-- a new object -/
theorem am_B.new {i : Nat} {q : am_NR} (hf : am_find E.2.2.2 pc = some r) (hi : r.2.1 = .new i) (hq : am_nfind E.2.1.2.1 i = some q) (k : am_B E R Z (pc + 3) lo (.ref h.length :: st) (h ++ [.inr (q.2.1, q.2.2)]) rc rs) : am_B E R Z pc lo st h (rc + 1) (rs + q.2.2.length) := by
  intro ok l D cA sb base p e s m args below meth c C H locs cells slots ls hR hS h1 h2 hl
  have K := fun H1 a1 a2 => k ok l D cA sb base p e s m args below meth c C H1 locs (cells + 1) (slots + q.2.2.length) ls a1 a2 (by omega) (by omega) hl
  obtain ⟨hm0, rfl⟩ := am_find_ok hf
  obtain ⟨hd, -, -⟩ := ok.2.2 r hm0
  obtain ⟨hqm, rfl⟩ := am_nfind_ok hq
  obtain ⟨C', T, N, hc, ⟨hin, hnm', ty0, hty⟩, hclk, hins, hini, hdef, hlen, hnr⟩ := ok.2.1.2.1 q hqm
  obtain ⟨hx, hb, hml, hret, hown, hts, hK, hlk, hnm⟩ := C
  rw [hi] at hd
  have hKn := hK.1 _ _ hc
  rw [hlen] at K
  refine W.newcK hx hb hown (hts _ hclk) (hts _ hins) (hts _ hini) rfl hd (by omega) (by omega) hKn.2.1 rfl fun H1 kC hkC e1 z1 o1 => ?_
  rw [← hR.next]
  refine K H1 (hR.push z1 o1 ⟨_, hc, (u_born ty0 hts hin hKn hkC e1 hty).to (fun j hj => ?_)⟩) ⟨Nat.le_trans hS.1 (by omega), fun x a1 a2 => (o1 x (Nat.lt_of_lt_of_le a1 hS.1)).trans (hS.2.1 x a1 a2), hS.2.2⟩
  have := hdef j hj
  rw [hty j hj] at this
  have h3 := this.symm
  simp only [Option.map_some] at h3
  unfold vp_V
  rw [List.getD_eq_getElem?_getD, List.getElem?_map, h3]
  have hm : defaultValue (ty0 j) ∈ q.2.2 := List.mem_of_getElem? h3
  have h4 := List.all_eq_true.mp hnr _ hm
  cases hd : defaultValue (ty0 j) <;> first | rfl | (rw [hd] at h4; exact absurd h4 (by simp [am_isk]))
/-- a new row of numbers -/
theorem am_B.newa_g {ay : ArrayType} {t n : Nat} {ty : FieldType} {x : vp_A} {j : Int32} (hf : am_find E.2.2.2 pc = some r) (hi : r.2.1 = .newarray ay) (hw : Jvm.Cond.arrayClass (newarray.typeOf ay) ∈ E.1.2) (htt : newarray.typeOf ay = ty) (ht : am_tys[t]? = some ty) (hon : am_on t = true) (ht9 : t ≠ 99)
    (hra : ∀ (U : State) (c : ClassId), va_RA U c ty → U.vm.findClass ("[" ++ ty.toString) = some c) (hz : ∀ (c : ClassId) (sb base : Nat), vp_cell c (am_cx sb base x) = arrV c n (fun _ => defaultValue ty)) (hj : j = nI n) (hn : n ≤ 60000000)
    (k : am_B E R Z (pc + 2) lo (.ref h.length :: st) (h ++ [.inl (t, x)]) rc rs) : am_B E R Z pc lo (.int j :: st) h (rc + 1) (rs + n) := by
  intro ok l D cA sb base p e s m args below meth c C H locs cells slots ls hR hS h1 h2 hl
  have K := fun H1 a1 a2 => k ok l D cA sb base p e s m args below meth c C H1 locs (cells + 1) (slots + n) ls a1 a2 (by omega) (by omega) hl
  obtain ⟨hm0, rfl⟩ := am_find_ok hf
  obtain ⟨hd, -, -⟩ := ok.2.2 r hm0
  obtain ⟨hx, hb, hml, hret, hown, hts, hK, hlk, hnm⟩ := C
  rw [hi] at hd
  have hn31 : n < 2 ^ 31 := by omega
  have hbytes : n * componentBytes (newarray.typeOf ay) ≤ 536870912 := by
    cases ay <;> simp only [newarray.typeOf, componentBytes] <;> omega
  subst hj
  refine va_newaK hx hb (hts _ hw) rfl hd rfl (nI_pos hn31) (nI_clamp hn31) hbytes (by omega) (by omega) rfl fun H1 cA' e1 z1 o1 hAr hNm => ?_
  have ecA : cA' = cA t := by
    have h3 := hra s (cA t) (hK.2.1 t ty ht hon).2
    rw [htt] at hNm
    exact Option.some.inj (hNm.symm.trans h3)
  rw [← hR.next]
  refine K H1 (hR.push z1 o1 ⟨fun q => absurd q ht9, fun _ => Or.inr ?_⟩) ⟨Nat.le_trans hS.1 (by omega), fun x a1 a2 => (o1 x (Nat.lt_of_lt_of_le a1 hS.1)).trans (hS.2.1 x a1 a2), hS.2.2⟩
  rw [e1]
  dsimp only
  rw [hz, htt, ecA]
theorem am_B.newI {n : Nat} {j : Int32} (hf : am_find E.2.2.2 pc = some r) (hi : r.2.1 = .newarray .int) (hw : Jvm.Cond.arrayClass .int ∈ E.1.2) (hj : j = nI n) (hn : n ≤ 60000000) (k : am_B E R Z (pc + 2) lo (.ref h.length :: st) (h ++ [.inl (0, n, .inl fun _ => 0)]) rc rs) : am_B E R Z pc lo (.int j :: st) h (rc + 1) (rs + n) :=
  am_B.newa_g hf hi hw rfl rfl rfl (by decide) (fun _ _ q => q) (fun _ _ _ => rfl) hj hn k
theorem am_B.newZ {n : Nat} {j : Int32} (hon : am_on 1 = true) (hf : am_find E.2.2.2 pc = some r) (hi : r.2.1 = .newarray .boolean) (hw : Jvm.Cond.arrayClass .boolean ∈ E.1.2) (hj : j = nI n) (hn : n ≤ 60000000) (k : am_B E R Z (pc + 2) lo (.ref h.length :: st) (h ++ [.inl (1, n, .inl fun _ => 0)]) rc rs) : am_B E R Z pc lo (.int j :: st) h (rc + 1) (rs + n) :=
  am_B.newa_g hf hi hw rfl rfl hon (by decide) (fun _ _ q => q) (fun _ _ _ => rfl) hj hn k
theorem am_B.newJ {n : Nat} {j : Int32} (hon : am_on 2 = true) (hf : am_find E.2.2.2 pc = some r) (hi : r.2.1 = .newarray .long) (hw : Jvm.Cond.arrayClass .long ∈ E.1.2) (hj : j = nI n) (hn : n ≤ 60000000) (k : am_B E R Z (pc + 2) lo (.ref h.length :: st) (h ++ [.inl (2, n, .inr (.inl fun _ => 0))]) rc rs) : am_B E R Z pc lo (.int j :: st) h (rc + 1) (rs + n) :=
  am_B.newa_g hf hi hw rfl rfl hon (by decide) (fun _ _ q => q) (fun _ _ _ => rfl) hj hn k
theorem am_B.newD {n : Nat} {j : Int32} (hon : am_on 3 = true) (hf : am_find E.2.2.2 pc = some r) (hi : r.2.1 = .newarray .double) (hw : Jvm.Cond.arrayClass .double ∈ E.1.2) (hj : j = nI n) (hn : n ≤ 60000000) (k : am_B E R Z (pc + 2) lo (.ref h.length :: st) (h ++ [.inl (3, n, .inr (.inr (.inr (.inl fun _ => 0))))]) rc rs) : am_B E R Z pc lo (.int j :: st) h (rc + 1) (rs + n) :=
  am_B.newa_g hf hi hw rfl rfl hon (by decide) (fun _ _ q => q) (fun _ _ _ => rfl) hj hn k
/-- new Trace[n] -/
theorem am_B.newT {i n : Nat} {j : Int32} (hf : am_find E.2.2.2 pc = some r) (hi : r.2.1 = .anewarray i) (hw1 : Jvm.Cond.classLink E.2.2.1.1.cls i "TraceAligner$Trace" ∈ E.1.2) (hj : j = nI n) (hn : n ≤ 60000000)
    (k : am_B E R Z (pc + 3) lo (.ref h.length :: st) (h ++ [.inl (4, n, .inr (.inr (.inr (.inr fun _ => none))))]) rc rs) : am_B E R Z pc lo (.int j :: st) h (rc + 1) (rs + n) := by
  intro ok l D cA sb base p e s m args below meth c C H locs cells slots ls hR hS h1 h2 hl
  have K := fun H1 a1 a2 => k ok l D cA sb base p e s m args below meth c C H1 locs (cells + 1) (slots + n) ls a1 a2 (by omega) (by omega) hl
  obtain ⟨hm0, rfl⟩ := am_find_ok hf
  obtain ⟨hd, -, -⟩ := ok.2.2 r hm0
  obtain ⟨hx, hb, hml, hret, hown, hts, hK, hlk, hnm⟩ := C
  rw [hi] at hd
  have hn31 : n < 2 ^ 31 := by omega
  subst hj
  have hcl := nI_clamp hn31
  refine W.anew hx hb hown (hts _ hw1) (va_AO.use hK.2.2.2.1) rfl hd rfl (nI_pos hn31) (by rw [hcl]; omega) (by omega) (by rw [hcl]; omega) fun cA' kA comp f1 f2 f3 f4 => ?_
  rw [hcl]
  generalize hH1 : H.push ({ cls := cA', slots := Array.replicate n .null, vm := .none } : Cell) = H1
  have z1 : H1.size = H.size + 1 := by rw [← hH1, Array.size_push]
  have e1 : H1[H.size]? = some (arrV cA' n (fun _ => .null)) := by rw [← hH1, Array.getElem?_push_size, ← arrV_new]
  have o1 : ∀ q : Nat, q < H.size → H1[q]? = H[q]? := fun q hq => by rw [← hH1, Array.getElem?_push, if_neg (Nat.ne_of_lt hq)]
  have ecA : cA' = cA 4 := by
    obtain ⟨kA', comp', g1, g2, g3, g4⟩ := (hK.2.1 4 _ rfl rfl).2
    exact Option.some.inj (f1.symm.trans g4)
  rw [← hR.next]
  refine K H1 (hR.push z1 o1 (am_mk_q (by decide) ?_)) ⟨Nat.le_trans hS.1 (by omega), fun x a1 a2 => (o1 x (Nat.lt_of_lt_of_le a1 hS.1)).trans (hS.2.1 x a1 a2), hS.2.2⟩
  rw [e1, ecA]
  rfl
/-- an object into a row of its class -/
theorem am_B.aast {a b n ci : Nat} {f : Nat → Option Nat} {vs : List Value} {j : Int32} (hf : am_find E.2.2.2 pc = some r) (hi : r.2.1 = .aastore) (ha : h[a]? = some (.inl (4, n, .inr (.inr (.inr (.inr f)))))) (hb0 : h[b]? = some (.inr (ci, vs))) (hci : (E.1.1[ci]?).map (·.1) = some "TraceAligner$Trace") (hin : vp_in j n)
    (k : am_B E R Z r.2.2.1 lo st (h.set a (.inl (4, n, .inr (.inr (.inr (.inr (va_up f j.toNatClampNeg (some b)))))))) rc rs) : am_B E R Z pc lo (.ref b :: .int j :: .ref a :: st) h rc rs := by
  intro ok l D cA sb base p e s m args below meth c C H locs cells slots ls hR hS h1 h2 hl
  have K := fun H1 l1 q1 q2 => k ok l D cA sb base p e s m args below meth c C H1 l1 cells slots ls q1 q2 h1 h2 hl
  obtain ⟨hm0, rfl⟩ := am_find_ok hf
  obtain ⟨hd, hn, -⟩ := ok.2.2 r hm0
  obtain ⟨hx, hb, hml, hret, hown, hts, hK, hlk, hnm⟩ := C
  rw [hi] at hd hn
  rw [hn] at K
  have a0 : a ≠ 0 := by
    rintro rfl
    obtain ⟨x, hx⟩ := hR.2.2.1
    rw [hx] at ha
    cases ha
  have aB : base ≤ am_ad sb base a := by
    obtain ⟨j, rfl⟩ : ∃ j, a = j + 1 := ⟨a - 1, by omega⟩
    exact am_ad_ge
  have hA := am_at_q (hR.2.2.2 a _ ha) (by decide)
  obtain ⟨q, hq1, hq2⟩ : ∃ q, E.1.1[ci]? = some q ∧ q.1 = "TraceAligner$Trace" := by
    cases hz : E.1.1[ci]? with
    | none => rw [hz] at hci; cases hci
    | some q => rw [hz] at hci; exact ⟨q, rfl, Option.some.inj hci⟩
  have hlt : j.toNatClampNeg < n := Nat.not_le.mp fun q => hin (Or.inr q)
  have h0 : ¬ j < 0 := fun q => hin (Or.inl q)
  obtain ⟨r', hr', cellV, g1, g2, g3, -⟩ := hR.2.2.2 b _ hb0
  have hcls := (hK.1 ci q hq1).2
  obtain ⟨kA, comp, k1, k2, k3, -⟩ := (hK.2.1 4 _ rfl rfl).2
  have hcomp : comp = D.1 ci := by
    have h5 := hcls.1
    rw [hq2] at h5
    exact Option.some.inj (k3.symm.trans h5)
  subst hcomp
  obtain ⟨kC, hkC, -⟩ := hcls.2
  refine W.aast hx hb hA (fun q h => by cases h) (fun h => by cases h) k1 k2 rfl hkC ⟨h0, by rw [arrV_size]; exact hlt⟩ g1 (fun q h => by rw [g3] at h; cases h) (by rw [g2]; exact hkC) (by rw [g2]; exact va_assign hcls) rfl rfl hd fun H1 e z oq => ?_
  refine K H1 _ (hR.set ha z oq a0 (am_mk_q (by decide) ?_)) (hS.put z oq aB)
  rw [e, arrV_store]
  congr 2
  funext q
  by_cases hq : q = j.toNatClampNeg
  · subst hq
    simp [updV, va_up, va_rf]
  · simp [updV, va_up, hq]
/-! ends -/
theorem am_B.iret {dc ds f : Nat} {Qa : Option Value → am_H → Prop} {x : Int32} (hf : am_find E.2.2.2 pc = some r) (hi : r.2.1 = .ireturn) (hret0 : E.2.2.1.2.2.2 = some .int) (hq : Qa (some (.int x)) h) : am_B E (am_rm f dc ds) (am_ZM E dc ds Qa) pc lo [.int x] h rc rs := by
  intro ok l D cA sb base p e s m args below meth c C H locs cells slots ls hR hS h1 h2 hl
  obtain ⟨hm0, rfl⟩ := am_find_ok hf
  obtain ⟨hd, -, -⟩ := ok.2.2 r hm0
  obtain ⟨hx, hb, hml, hret, hown, hts, hK, hlk, hnm⟩ := C
  rw [hi] at hd
  refine W.widen (k := dc) (n := ds) (by have : (am_rm f dc ds).cells = dc := rfl; omega) (by have : (am_rm f dc ds).slots = ds := rfl; omega) ?_
  exact W.zret (ty := .int) hx hb (hret.trans hret0) rfl (fun t ht hW => ⟨⟨some (.int x), h, rfl, hq, by rw [ht]; exact hR.moved hW.alike, hK.moved hW⟩, hS.F ht⟩) hS.2.2 hd
theorem am_B.zret {dc ds f : Nat} {Qa : Option Value → am_H → Prop} {x : Int32} (hf : am_find E.2.2.2 pc = some r) (hi : r.2.1 = .ireturn) (hret0 : E.2.2.1.2.2.2 = some .boolean) (h01 : am_fit 1 (.int x) = true) (hq : Qa (some (.int x)) h) : am_B E (am_rm f dc ds) (am_ZM E dc ds Qa) pc lo [.int x] h rc rs := by
  intro ok l D cA sb base p e s m args below meth c C H locs cells slots ls hR hS h1 h2 hl
  obtain ⟨hm0, rfl⟩ := am_find_ok hf
  obtain ⟨hd, -, -⟩ := ok.2.2 r hm0
  obtain ⟨hx, hb, hml, hret, hown, hts, hK, hlk, hnm⟩ := C
  rw [hi] at hd
  refine W.widen (k := dc) (n := ds) (by have : (am_rm f dc ds).cells = dc := rfl; omega) (by have : (am_rm f dc ds).slots = ds := rfl; omega) ?_
  exact W.zret (ty := .boolean) hx hb (hret.trans hret0) (am_fit_ok (sb := 0) (base := 0) (kd := 1) rfl h01).1 (fun t ht hW => ⟨⟨some (.int x), h, rfl, hq, by rw [ht]; exact hR.moved hW.alike, hK.moved hW⟩, hS.F ht⟩) hS.2.2 hd
theorem am_B.vret {dc ds f : Nat} {Qa : Option Value → am_H → Prop} (hf : am_find E.2.2.2 pc = some r) (hi : r.2.1 = .return_) (hret0 : E.2.2.1.2.2.2 = none) (hq : Qa none h) : am_B E (am_rm f dc ds) (am_ZM E dc ds Qa) pc lo [] h rc rs := by
  intro ok l D cA sb base p e s m args below meth c C H locs cells slots ls hR hS h1 h2 hl
  obtain ⟨hm0, rfl⟩ := am_find_ok hf
  obtain ⟨hd, -, -⟩ := ok.2.2 r hm0
  obtain ⟨hx, hb, hml, hret, hown, hts, hK, hlk, hnm⟩ := C
  rw [hi] at hd
  refine W.widen (k := dc) (n := ds) (by have : (am_rm f dc ds).cells = dc := rfl; omega) (by have : (am_rm f dc ds).slots = ds := rfl; omega) ?_
  exact W.vret hx hb (hret.trans hret0) (fun t ht hW => ⟨⟨none, h, rfl, hq, by rw [ht]; exact hR.moved hW.alike, hK.moved hW⟩, hS.F ht⟩) hS.2.2 hd
theorem am_B.lret {dc ds f : Nat} {Qa : Option Value → am_H → Prop} {x : Int64} (hf : am_find E.2.2.2 pc = some r) (hi : r.2.1 = .lreturn) (hret0 : E.2.2.1.2.2.2 = some .long) (hq : Qa (some (.long x)) h) : am_B E (am_rm f dc ds) (am_ZM E dc ds Qa) pc lo [.long x] h rc rs := by
  intro ok l D cA sb base p e s m args below meth c C H locs cells slots ls hR hS h1 h2 hl
  obtain ⟨hm0, rfl⟩ := am_find_ok hf
  obtain ⟨hd, -, -⟩ := ok.2.2 r hm0
  obtain ⟨hx, hb, hml, hret, hown, hts, hK, hlk, hnm⟩ := C
  rw [hi] at hd
  refine W.widen (k := dc) (n := ds) (by have : (am_rm f dc ds).cells = dc := rfl; omega) (by have : (am_rm f dc ds).slots = ds := rfl; omega) ?_
  exact W.lret hx hb (hret.trans hret0) (fun t ht hW => ⟨⟨some (.long x), h, rfl, hq, by rw [ht]; exact hR.moved hW.alike, hK.moved hW⟩, hS.F ht⟩) hS.2.2 hd
theorem am_B.dret {dc ds f : Nat} {Qa : Option Value → am_H → Prop} {x : UInt64} (hf : am_find E.2.2.2 pc = some r) (hi : r.2.1 = .dreturn) (hret0 : E.2.2.1.2.2.2 = some .double) (hq : Qa (some (.double x)) h) : am_B E (am_rm f dc ds) (am_ZM E dc ds Qa) pc lo [.double x] h rc rs := by
  intro ok l D cA sb base p e s m args below meth c C H locs cells slots ls hR hS h1 h2 hl
  obtain ⟨hm0, rfl⟩ := am_find_ok hf
  obtain ⟨hd, -, -⟩ := ok.2.2 r hm0
  obtain ⟨hx, hb, hml, hret, hown, hts, hK, hlk, hnm⟩ := C
  rw [hi] at hd
  refine W.widen (k := dc) (n := ds) (by have : (am_rm f dc ds).cells = dc := rfl; omega) (by have : (am_rm f dc ds).slots = ds := rfl; omega) ?_
  exact W.dret hx hb (hret.trans hret0) (fun t ht hW => ⟨⟨some (.double x), h, rfl, hq, by rw [ht]; exact hR.moved hW.alike, hK.moved hW⟩, hS.F ht⟩) hS.2.2 hd
theorem am_B.aret {dc ds f a : Nat} {C' : String} {Qa : Option Value → am_H → Prop} (hf : am_find E.2.2.2 pc = some r) (hi : r.2.1 = .areturn) (hret0 : E.2.2.1.2.2.2 = some (.object C')) (hq : Qa (some (.ref a)) h) : am_B E (am_rm f dc ds) (am_ZM E dc ds Qa) pc lo [.ref a] h rc rs := by
  intro ok l D cA sb base p e s m args below meth c C H locs cells slots ls hR hS h1 h2 hl
  obtain ⟨hm0, rfl⟩ := am_find_ok hf
  obtain ⟨hd, -, -⟩ := ok.2.2 r hm0
  obtain ⟨hx, hb, hml, hret, hown, hts, hK, hlk, hnm⟩ := C
  rw [hi] at hd
  refine W.widen (k := dc) (n := ds) (by have : (am_rm f dc ds).cells = dc := rfl; omega) (by have : (am_rm f dc ds).slots = ds := rfl; omega) ?_
  exact W.aret hx hb (hret.trans hret0) (Or.inl ⟨_, rfl⟩) (Or.inr ⟨_, rfl⟩) (fun t ht hW => ⟨⟨some (.ref a), h, rfl, hq, by rw [ht]; exact hR.moved hW.alike, hK.moved hW⟩, hS.F ht⟩) hS.2.2 hd
end CALLS
end
section
/-! THE PLAIN MACHINE's tables, as one program checks them: each row with its words' places -/
def am_has (big : List Jvm.Cond) (p : Nat) (w : Jvm.Cond) : Bool := decide (big[p]? = some w)
theorem am_has_in {big : List Jvm.Cond} {p : Nat} {w : Jvm.Cond} (h : am_has big p w = true) : w ∈ big := List.mem_of_getElem? (of_decide_eq_true h)
def am_all2 {α β : Type} (f : α → β → Bool) : List α → List β → Bool
  | [], [] => true
  | a :: s, b :: t => f a b && am_all2 f s t
  | _, _ => false
theorem am_all2_of {α β : Type} {f : α → β → Bool} : ∀ {s : List α} {t : List β}, am_all2 f s t = true → ∀ a ∈ s, ∃ b, f a b = true
  | [], _, _, _, h => nomatch h
  | a :: s, [], h, _, _ => by simp [am_all2] at h
  | a :: s, b :: t, h, x, hx => by
    simp only [am_all2, Bool.and_eq_true] at h
    rcases List.mem_cons.mp hx with rfl | hx
    · exact ⟨b, h.1⟩
    · exact am_all2_of h.2 x hx
def am_okFb (own : String) (cl : List vw_C) (big : List Jvm.Cond) (q : am_FR) (p : Nat) : Bool := match cl[q.2.1]? with
  | none => false
  | some r => decide (q.2.2.1 < r.2.2) && am_has big p (Jvm.Cond.fieldLink own q.1 (r.2.1 q.2.2.1).1 (r.2.1 q.2.2.1).2.1 (r.2.1 q.2.2.1).2.2.1) &&
    (match parseFieldDescriptor (r.2.1 q.2.2.1).2.2.1 with | some ty => am_kd q.2.2.2.1 ty | none => false) && decide (q.2.2.2.1 = 9 ∨ (r.2.1 q.2.2.1).2.2.2 = q.2.2.2.2) && (!q.2.2.2.2 || decide ((r.2.1 q.2.2.1).1 = own))
def am_okCb (big : List Jvm.Cond) (q : vw_C) (ps : List Nat) : Bool := am_all2 (fun w p => am_has big p w) (u_ws q.1 q.2.1 q.2.2) ps && (List.range q.2.2).all (fun a => (List.range q.2.2).all fun b => decide (a = b) || decide ((q.2.1 a).2.1 ≠ (q.2.1 b).2.1)) &&
  (List.range q.2.2).all (fun k => (parseFieldDescriptor (q.2.1 k).2.2.1).isSome)
theorem am_okC_of {big : List Jvm.Cond} {q : vw_C} {ps : List Nat} (h : am_okCb big q ps = true) : am_okC big q := by
  unfold am_okCb at h
  rw [Bool.and_eq_true, Bool.and_eq_true] at h
  obtain ⟨⟨h1, h2⟩, h3⟩ := h
  simp only [List.all_eq_true, decide_eq_true_eq, List.mem_range, Bool.or_eq_true] at h2 h3
  refine ⟨fun w hw => ?_, fun a ha b hb hne => (h2 a ha b hb).resolve_left hne, fun k => (parseFieldDescriptor (q.2.1 k).2.2.1).getD .int, fun k hk => ?_⟩
  · obtain ⟨p, hp⟩ := am_all2_of h1 w hw
    exact am_has_in hp
  · have := h3 k hk
    cases e : parseFieldDescriptor (q.2.1 k).2.2.1 with
    | none => rw [e] at this; cases this
    | some ty => simp only [e, Option.getD_some]
theorem am_okF_of {own : String} {cl : List vw_C} {big : List Jvm.Cond} (hC : ∀ q ∈ cl, am_okC big q) {FL : List am_FR} {ps : List Nat} (h : am_all2 (am_okFb own cl big) FL ps = true) : ∀ q ∈ FL, am_okF own cl big q := by
  intro q hq
  obtain ⟨p, h1⟩ := am_all2_of h q hq
  unfold am_okFb at h1
  split at h1
  · cases h1
  · rename_i r hr
    simp only [Bool.and_eq_true, decide_eq_true_eq, Bool.or_eq_true, Bool.not_eq_true'] at h1
    obtain ⟨⟨⟨⟨h1, h2⟩, h3⟩, h4⟩, h5⟩ := h1
    refine ⟨r.1, r.2.1, r.2.2, hr, hC r (List.mem_of_getElem? hr), h1, am_has_in h2, ?_, h4, fun hf => h5.resolve_left (by rw [hf]; decide)⟩
    split at h3
    · rename_i ty hty
      exact ⟨ty, hty, h3⟩
    · cases h3
def am_okNb (own : String) (cl : List vw_C) (big : List Jvm.Cond) (q : am_NR) (p : Nat × Nat × Nat) : Bool := match cl[q.2.1]? with
  | none => false
  | some r => am_has big p.1 (Jvm.Cond.classLink own q.1 r.1) && am_has big p.2.1 (Jvm.Cond.instantiable r.1 r.2.2) && am_has big p.2.2 (Jvm.Cond.initialized r.1) &&
    (List.range r.2.2).all (fun k => decide ((parseFieldDescriptor (r.2.1 k).2.2.1).map defaultValue = q.2.2[k]?)) && decide (q.2.2.length = r.2.2) && q.2.2.all (fun v => !(am_isk 1 v) || v == .null)
theorem am_okN_of {own : String} {cl : List vw_C} {big : List Jvm.Cond} (hC : ∀ q ∈ cl, am_okC big q) {NL : List am_NR} {ps : List (Nat × Nat × Nat)} (h : am_all2 (am_okNb own cl big) NL ps = true) : ∀ q ∈ NL, am_okN own cl big q := by
  intro q hq
  obtain ⟨p, h1⟩ := am_all2_of h q hq
  unfold am_okNb at h1
  split at h1
  · cases h1
  · rename_i r hr
    rw [Bool.and_eq_true, Bool.and_eq_true, Bool.and_eq_true, Bool.and_eq_true, Bool.and_eq_true] at h1
    obtain ⟨⟨⟨⟨⟨h1, h2⟩, h3⟩, h4⟩, h5⟩, h6⟩ := h1
    exact ⟨r.1, r.2.1, r.2.2, hr, hC r (List.mem_of_getElem? hr), am_has_in h1, am_has_in h2, am_has_in h3, fun k hk => of_decide_eq_true (List.all_eq_true.mp h4 k (List.mem_range.mpr hk)), of_decide_eq_true h5, h6⟩
/-- a call's row, with the host of a nest mate's -/
def am_okMb (own host : String) (cl : List vw_C) (big : List Jvm.Cond) (q : am_MR) (p : Nat × Nat × Nat × Nat × Nat) : Bool :=
  am_has big p.1 (Jvm.Cond.code q.2.2.2.2.1 q.2.2.2.2.2.1 q.2.2.2.2.2.2.1 q.2.2.2.2.2.2.2) && decide (q.2.2.2.2.1.cls ≠ "java/lang/invoke/MethodHandle") && decide (q.2.2.2.2.1.cls ≠ "java/lang/invoke/VarHandle") && decide ((parseMethodDescriptor q.2.2.2.2.1.desc).map (fun d => d.parameters.length) = some q.2.2.2.1) &&
  am_has big p.2.1 (Jvm.Cond.initialized q.2.2.2.2.1.cls) &&
  match q.2.1 with
  | 0 => am_has big p.2.2.1 (Jvm.Cond.methodLink own q.1 q.2.2.2.2.1) && am_has big p.2.2.2.1 (Jvm.Cond.instanceMethod q.2.2.2.2.1) && am_has big p.2.2.2.2 (Jvm.Cond.selects q.2.2.2.2.1.cls q.2.2.2.2.1 q.2.2.2.2.1) && decide ((cl[q.2.2.1]?).map (·.1) = some q.2.2.2.2.1.cls)
  | 1 => am_has big p.2.2.1 (Jvm.Cond.methodLink own q.1 q.2.2.2.2.1) && am_has big p.2.2.2.1 (Jvm.Cond.static q.2.2.2.2.1)
  | 2 => am_has big p.2.2.1 (Jvm.Cond.methodLink own q.1 q.2.2.2.2.1) && am_has big p.2.2.2.1 (Jvm.Cond.instanceMethod q.2.2.2.2.1) && decide (q.2.2.2.2.1.name = "<init>") && decide (q.2.2.2.2.2.2.2 = none)
  | 4 => decide ((own, q.1, q.2.2.2.2.1, host) ∈ am_nst) && am_has big p.2.2.2.1 (Jvm.Cond.static q.2.2.2.2.1)
  | 5 => decide ((own, q.1, q.2.2.2.2.1, host) ∈ am_nst) && am_has big p.2.2.2.1 (Jvm.Cond.instanceMethod q.2.2.2.2.1) && decide (q.2.2.2.2.1.name = "<init>") && decide (q.2.2.2.2.2.2.2 = none)
  | _ => false
theorem am_okM_of {own : String} (host : String) {cl : List vw_C} {big : List Jvm.Cond} {ML : List am_MR} {ps : List (Nat × Nat × Nat × Nat × Nat)} (h : am_all2 (am_okMb own host cl big) ML ps = true) : ∀ q ∈ ML, am_okM own cl big q := by
  intro q hq
  obtain ⟨p, h1⟩ := am_all2_of h q hq
  obtain ⟨i, kd, ci, n, M⟩ := q
  unfold am_okMb at h1
  rw [Bool.and_eq_true, Bool.and_eq_true, Bool.and_eq_true, Bool.and_eq_true, Bool.and_eq_true] at h1
  obtain ⟨⟨⟨⟨⟨h1, h2⟩, h3⟩, h4⟩, h5⟩, h6⟩ := h1
  refine ⟨am_has_in h1, ⟨of_decide_eq_true h2, of_decide_eq_true h3, of_decide_eq_true h4⟩, am_has_in h5, ?_⟩
  dsimp only at h6 ⊢
  split at h6
  · rw [Bool.and_eq_true, Bool.and_eq_true, Bool.and_eq_true] at h6
    exact ⟨am_has_in h6.1.1.1, am_has_in h6.1.1.2, am_has_in h6.1.2, of_decide_eq_true h6.2⟩
  · rw [Bool.and_eq_true] at h6
    exact ⟨am_has_in h6.1, am_has_in h6.2⟩
  · rw [Bool.and_eq_true, Bool.and_eq_true, Bool.and_eq_true] at h6
    exact ⟨am_has_in h6.1.1.1, am_has_in h6.1.1.2, of_decide_eq_true h6.1.2, of_decide_eq_true h6.2⟩
  · rw [Bool.and_eq_true] at h6
    exact ⟨host, of_decide_eq_true h6.1, am_has_in h6.2⟩
  · rw [Bool.and_eq_true, Bool.and_eq_true, Bool.and_eq_true] at h6
    exact ⟨host, of_decide_eq_true h6.1.1.1, am_has_in h6.1.1.2, of_decide_eq_true h6.1.2, of_decide_eq_true h6.2⟩
  · cases h6
def am_okRowb (own : String) (cc : ByteArray) (big : List Jvm.Cond) (r : am_Row) : Bool := decide (decode cc r.1 = .ok (r.2.1, am_len r.2.1)) && decide (r.2.2.1 = r.1 + am_len r.2.1) && am_okK own big r
theorem am_okRow_of {own : String} {cc : ByteArray} {big : List Jvm.Cond} {tb : List am_Row} (h : tb.all (am_okRowb own cc big) = true) : ∀ r ∈ tb, am_okRow own cc big r := by
  intro r hr
  have h1 := List.all_eq_true.mp h r hr
  unfold am_okRowb at h1
  rw [Bool.and_eq_true, Bool.and_eq_true] at h1
  exact ⟨of_decide_eq_true h1.1.1, of_decide_eq_true h1.1.2, h1.2⟩
theorem am_all_app {α : Type} {f : α → Bool} {a b : List α} (ha : a.all f = true) (hb : b.all f = true) : (a ++ b).all f = true := by rw [List.all_append, ha, hb]; rfl
end
section
/-! THE PLAIN MACHINE: new int[n][m] -/
theorem am_outer (c : ClassId) (N h0 : Nat) : ∀ i : Nat, Jvm.Free.Multi.outerC c N h0 i = arrV c N (fun j => va_rf (if j < i then some (h0 + 1 + j) else none))
  | 0 => by
    show ({ cls := c, slots := Array.replicate N .null, vm := .none } : Cell) = _
    rw [arrV_new]
    refine congrArg (arrV c N) (funext fun j => ?_)
    simp [va_rf]
  | i + 1 => by
    show (Jvm.Free.Multi.outerC c N h0 i).setSlot i (.ref (h0 + 1 + i)) = _
    rw [am_outer c N h0 i, arrV_store]
    refine congrArg (arrV c N) (funext fun j => ?_)
    by_cases e : j = i
    · subst e
      simp [updV, va_rf]
    · by_cases h : j < i
      · simp [updV, e, h, Nat.lt_succ_of_lt h]
      · simp [updV, e, h, show ¬ j < i + 1 by omega]
theorem am_B.mna {E : am_E} {R : Room} {Z : am_Z} {pc : Nat} {lo : am_L} {st : List Value} {h : am_H} {rc rs : Nat} {r : am_Row} {i N M : Nat} {n k : Int32} (hf : am_find E.2.2.2 pc = some r) (hi : r.2.1 = .multianewarray i 2) (hw1 : Jvm.Cond.classLink E.2.2.1.1.cls i ("[" ++ (FieldType.array FieldType.int).toString) ∈ E.1.2) (hw2 : Jvm.Cond.arrayClass .int ∈ E.1.2)
    (hn : n = nI N) (hk : k = nI M) (hN : N ≤ 60000000) (hM : M ≤ 60000000)
    (kk : am_B E R Z (pc + 4) lo (.ref h.length :: st) ((h ++ [.inl (5, N, .inr (.inr (.inr (.inr fun j => if j < N then some (h.length + 1 + j) else none))))]) ++ List.replicate N (.inl (0, M, .inl fun _ => 0))) rc rs) : am_B E R Z pc lo (.int k :: .int n :: st) h (rc + (1 + N)) (rs + (N + N * M)) := by
  intro ok l D cA sb base p e s m args below meth c C H locs cells slots ls hR hS h1 h2 hl
  have K := fun H1 l1 a1 a2 => kk ok l D cA sb base p e s m args below meth c C H1 l1 (cells + 1 + N) (slots + N + N * M) ls a1 a2 (by omega) (by omega) hl
  obtain ⟨hm0, rfl⟩ := am_find_ok hf
  obtain ⟨hd, -, -⟩ := ok.2.2 r hm0
  obtain ⟨hx, hb, hml, hret, hown, hts, hK, hlk, hnm⟩ := C
  rw [hi] at hd
  have hN31 : N < 2 ^ 31 := by omega
  have hM31 : M < 2 ^ 31 := by omega
  subst hn; subst hk
  have cN := nI_clamp hN31
  have cM := nI_clamp hM31
  have hover : (Jvm.Cond.arrayOver (.array .int)).before args s = true := hK.2.2.2.2
  intro T hT Xs
  have hb' : c.code = E.2.2.1.2.1 := hb
  obtain ⟨vm₁, cA', comp, hW1, fA, fC, hO, hI, X', step⟩ := Xs.multianewarray2F hx hown (hts _ hw1) hover (hts _ hw2) (g := F0 m r.1 ls (.int (nI M) :: .int (nI N) :: st.map (am_cv sb base))) rfl (by rw [hb']; exact hd) rfl (nI_pos hN31) (nI_pos hM31) (by rw [cN]; omega) (by rw [cM]; show M * 4 ≤ _; omega) (by rw [cM]; omega) rfl rfl (by rw [cN]; omega) (by rw [cN, cM]; omega)
  rw [cN, cM] at X' step
  have ecI : comp = cA 0 := Option.some.inj (fC.symm.trans (hK.2.1 0 .int rfl rfl).2)
  have ec5 : cA' = cA 5 := Option.some.inj (fA.symm.trans (hK.2.1 5 (.array .int) rfl rfl).2)
  subst ecI; subst ec5
  generalize hF : Jvm.Free.Multi.fill (T.setVm vm₁) (cA 5) (cA 0) N M (defaultValue FieldType.int) N = F at X' step
  have hTh : (T.setVm vm₁).heap = H := hT
  obtain ⟨f1, f2, -, -⟩ := Jvm.Free.Multi.fill_facts (T.setVm vm₁) (cA 5) (cA 0) N M (defaultValue FieldType.int) N
  rw [hF, hTh] at f1 f2
  have hold : ∀ x : Nat, x < H.size → F.heap[x]? = H[x]? := fun x hx => by
    have := Jvm.Free.Multi.fill_old (T.setVm vm₁) (cA 5) (cA 0) N M (defaultValue FieldType.int) (a := x) (by rw [hTh]; exact hx) N
    rw [hF, hTh] at this
    exact this
  have hrow : ∀ j : Nat, j < N → F.heap[H.size + 1 + j]? = some (arrV (cA 0) M (fun _ => .int 0)) := fun j hj => by
    have := Jvm.Free.Multi.fill_inner (T.setVm vm₁) (cA 5) (cA 0) N M (defaultValue FieldType.int) N j hj
    rw [hF, hTh] at this
    rw [this, ← arrV_new]
    rfl
  rw [am_outer] at f2
  have hp := hR.pos
  have hnx := hR.next
  have hsz := hR.2.1
  have had : ∀ j, am_ad sb base (h.length + j) = H.size + j := by
    intro j
    obtain ⟨q, hq⟩ : ∃ q, h.length = q + 1 := ⟨h.length - 1, by omega⟩
    rw [hq, show q + 1 + j = (q + j) + 1 by omega]
    show base + (q + j) = _
    omega
  have hTg : T.heap.size = H.size := by rw [hT]
  have hR' : am_R D E.1.1 cA sb base s ((h ++ [.inl (5, N, .inr (.inr (.inr (.inr fun j => if j < N then some (h.length + 1 + j) else none))))]) ++ List.replicate N (.inl (0, M, .inl fun _ => 0))) F.heap := by
    refine ⟨hR.1, by rw [f1]; simp only [List.length_append, List.length_singleton, List.length_replicate]; omega, ?_, fun k0 c0 hk0 => ?_⟩
    · obtain ⟨x, hx⟩ := hR.2.2.1
      exact ⟨x, by rw [List.append_assoc, List.getElem?_append_left hp]; exact hx⟩
    · by_cases q1 : k0 < h.length
      · rw [List.append_assoc, List.getElem?_append_left q1] at hk0
        exact (hR.2.2.2 k0 c0 hk0).kept (hold _ (hR.lt hk0))
      · obtain ⟨j, rfl⟩ : ∃ j, k0 = h.length + j := ⟨k0 - h.length, by omega⟩
        rw [List.append_assoc, List.getElem?_append_right (by omega), show h.length + j - h.length = j by omega] at hk0
        rw [had]
        cases j with
        | zero =>
          cases hk0
          refine am_mk_q (by decide) ?_
          rw [Nat.add_zero, f2]
          refine congrArg some (congrArg (arrV (cA 5) N) (funext fun j => ?_))
          by_cases q2 : j < N
          · simp only [q2, if_true, Option.map_some]
            rw [show h.length + 1 + j = h.length + (1 + j) by omega, had, Nat.add_assoc _ 1 j]
          · simp [q2]
        | succ j =>
          rw [List.cons_append, List.getElem?_cons_succ, List.nil_append, List.getElem?_replicate] at hk0
          split at hk0
          · rename_i q2
            cases hk0
            refine am_mk_i (by decide) ?_
            rw [show H.size + (j + 1) = H.size + 1 + j by omega]
            exact hrow j q2
          · cases hk0
  have hS' : va_S (fun q => base ≤ q) s.heap F.heap locs :=
    ⟨by rw [f1]; have := hS.1; omega, fun q q1 q2 => by rw [hold q (Nat.lt_of_lt_of_le q1 hS.1)]; exact hS.2.1 q q1 q2, hS.2.2⟩
  obtain ⟨t, a1, b1⟩ := K F.heap _ hR' hS' F rfl X'
  refine ⟨t, step t ?_, b1⟩
  rw [hTg, ← hnx]
  exact a1
end
section
/-! THE PLAIN MACHINE: switches, rows of rows -/
theorem am_assign_self (vm : Vm) (c : ClassId) : vm.assignable c c = true := by
  show vm.assignableAux _ c c = true
  unfold Vm.assignableAux
  simp
section MORE
variable {E : am_E} {R : Room} {Z : am_Z} {pc : Nat} {lo : am_L} {st : List Value} {h : am_H} {rc rs : Nat} {r : am_Row}
theorem am_B.tswIn {x : Int32} {dflt l0 h0 : Int} {offs : Array Int} {len tgt : Nat} {off : Int} (hd : decode E.2.2.1.2.1 pc = .ok (.tableswitch dflt l0 h0 offs, len)) (h1 : ¬ x.toInt < l0) (h2 : ¬ h0 < x.toInt) (ho : offs[(x.toInt - l0).toNat]? = some off) (ht : (pc : Int) + off = (tgt : Int))
    (k : am_B E R Z tgt lo st h rc rs) : am_B E R Z pc lo (.int x :: st) h rc rs := by
  intro ok l D cA sb base p e s m args below meth c C H locs cells slots ls hR hS g1 g2 hl
  exact lv_tableIn C.1 C.2.1 hd h1 h2 ho ht (k ok l D cA sb base p e s m args below meth c C H locs cells slots ls hR hS g1 g2 hl)
theorem am_B.tswOut {x : Int32} {dflt l0 h0 : Int} {offs : Array Int} {len tgt : Nat} (hd : decode E.2.2.1.2.1 pc = .ok (.tableswitch dflt l0 h0 offs, len)) (h1 : x.toInt < l0 ∨ h0 < x.toInt) (ht : (pc : Int) + dflt = (tgt : Int))
    (k : am_B E R Z tgt lo st h rc rs) : am_B E R Z pc lo (.int x :: st) h rc rs := by
  intro ok l D cA sb base p e s m args below meth c C H locs cells slots ls hR hS g1 g2 hl
  exact lv_tableOut C.1 C.2.1 hd h1 ht (k ok l D cA sb base p e s m args below meth c C H locs cells slots ls hR hS g1 g2 hl)
/-- new int[n][] -/
theorem am_B.newA {i n : Nat} {j : Int32} (hf : am_find E.2.2.2 pc = some r) (hi : r.2.1 = .anewarray i) (hw1 : Jvm.Cond.classLink E.2.2.1.1.cls i (FieldType.array FieldType.int).toString ∈ E.1.2) (hj : j = nI n) (hn : n ≤ 60000000)
    (k : am_B E R Z (pc + 3) lo (.ref h.length :: st) (h ++ [.inl (5, n, .inr (.inr (.inr (.inr fun _ => none))))]) rc rs) : am_B E R Z pc lo (.int j :: st) h (rc + 1) (rs + n) := by
  intro ok l D cA sb base p e s m args below meth c C H locs cells slots ls hR hS h1 h2 hl
  have K := fun H1 a1 a2 => k ok l D cA sb base p e s m args below meth c C H1 locs (cells + 1) (slots + n) ls a1 a2 (by omega) (by omega) hl
  obtain ⟨hm0, rfl⟩ := am_find_ok hf
  obtain ⟨hd, -, -⟩ := ok.2.2 r hm0
  obtain ⟨hx, hb, hml, hret, hown, hts, hK, hlk, hnm⟩ := C
  rw [hi] at hd
  have hn31 : n < 2 ^ 31 := by omega
  subst hj
  have hcl := nI_clamp hn31
  refine W.anewA hx hb hown (hts _ hw1) (show (Jvm.Cond.arrayOver (.array .int)).before args s = true from hK.2.2.2.2) rfl hd rfl (nI_pos hn31) (by rw [hcl]; omega) (by omega) (by rw [hcl]; omega) fun cA' kA comp f1 f2 f3 f4 => ?_
  rw [hcl]
  generalize hH1 : H.push ({ cls := cA', slots := Array.replicate n .null, vm := .none } : Cell) = H1
  have z1 : H1.size = H.size + 1 := by rw [← hH1, Array.size_push]
  have e1 : H1[H.size]? = some (arrV cA' n (fun _ => .null)) := by rw [← hH1, Array.getElem?_push_size, ← arrV_new]
  have o1 : ∀ q : Nat, q < H.size → H1[q]? = H[q]? := fun q hq => by rw [← hH1, Array.getElem?_push, if_neg (Nat.ne_of_lt hq)]
  have ecA : cA' = cA 5 := Option.some.inj (f1.symm.trans (hK.2.1 5 (.array .int) rfl rfl).2)
  rw [← hR.next]
  refine K H1 (hR.push z1 o1 (am_mk_q (by decide) ?_)) ⟨Nat.le_trans hS.1 (by omega), fun x a1 a2 => (o1 x (Nat.lt_of_lt_of_le a1 hS.1)).trans (hS.2.1 x a1 a2), hS.2.2⟩
  rw [e1, ecA]
  rfl
/-- a row into a row of rows -/
theorem am_B.aastA {a b n : Nat} {f : Nat → Option Nat} {y : Nat × (Nat → Int32)} {j : Int32} (hf : am_find E.2.2.2 pc = some r) (hi : r.2.1 = .aastore) (ha : h[a]? = some (.inl (5, n, .inr (.inr (.inr (.inr f)))))) (hb0 : h[b]? = some (.inl (0, y.1, .inl y.2))) (hin : vp_in j n)
    (k : am_B E R Z r.2.2.1 lo st (h.set a (.inl (5, n, .inr (.inr (.inr (.inr (va_up f j.toNatClampNeg (some b)))))))) rc rs) : am_B E R Z pc lo (.ref b :: .int j :: .ref a :: st) h rc rs := by
  intro ok l D cA sb base p e s m args below meth c C H locs cells slots ls hR hS h1 h2 hl
  have K := fun H1 l1 q1 q2 => k ok l D cA sb base p e s m args below meth c C H1 l1 cells slots ls q1 q2 h1 h2 hl
  obtain ⟨hm0, rfl⟩ := am_find_ok hf
  obtain ⟨hd, hn, -⟩ := ok.2.2 r hm0
  obtain ⟨hx, hb, hml, hret, hown, hts, hK, hlk, hnm⟩ := C
  rw [hi] at hd hn
  rw [hn] at K
  have a0 : a ≠ 0 := by
    rintro rfl
    obtain ⟨x, hx⟩ := hR.2.2.1
    rw [hx] at ha
    cases ha
  have aB : base ≤ am_ad sb base a := by
    obtain ⟨j, rfl⟩ : ∃ j, a = j + 1 := ⟨a - 1, by omega⟩
    exact am_ad_ge
  have hA := am_at_q (hR.2.2.2 a _ ha) (by decide)
  have hB := am_at_i (hR.2.2.2 b _ hb0) (by decide)
  have hlt : j.toNatClampNeg < n := Nat.not_le.mp fun q => hin (Or.inr q)
  have hj0 : ¬ j < 0 := fun q => hin (Or.inl q)
  obtain ⟨comp, c5, k5, s1, -, s3, s4, s5⟩ := am_AOA_spec hK.2.2.2.2
  have ec5 : c5 = cA 5 := Option.some.inj (s5.symm.trans (hK.2.1 5 (.array .int) rfl rfl).2)
  have ecI : comp = cA 0 := Option.some.inj (s1.symm.trans (hK.2.1 0 .int rfl rfl).2)
  subst ec5; subst ecI
  obtain ⟨-, kI, hkI, -⟩ := (hK.2.1 0 .int rfl rfl).1 0 (fun _ => .null)
  refine W.aast hx hb hA (fun q h => by cases h) (fun h => by cases h) s3 s4 rfl hkI ⟨hj0, by rw [arrV_size]; exact hlt⟩ hB (fun q h => by cases h) hkI (am_assign_self _ _) rfl rfl hd fun H1 e z oq => ?_
  refine K H1 _ (hR.set ha z oq a0 (am_mk_q (by decide) ?_)) (hS.put z oq aB)
  rw [e, arrV_store]
  congr 2
  funext q
  by_cases hq : q = j.toNatClampNeg
  · subst hq
    simp [updV, va_up, va_rf]
  · simp [updV, va_up, hq]
end MORE
end
