/-! TABLES of p32, by program (wip/tools/gentab.py) out of the task folder. -/
def T_TA : u_T := fun k => match k with
  | 0 => ("TraceAligner", "net", "LTraceAligner$Net;", true)
  | 1 => ("TraceAligner", "graph", "LTraceAligner$MarkingGraph;", true)
  | 2 => ("TraceAligner", "finder", "LTraceAligner$PathFinder;", true)
  | 3 => ("TraceAligner", "labelCosts", "[I", true)
  | 4 => ("TraceAligner", "buffer", "[I", true)
  | 5 => ("TraceAligner", "buffered", "I", false)
  | 6 => ("TraceAligner", "traces", "[LTraceAligner$Trace;", true)
  | 7 => ("TraceAligner", "traceCount", "I", false)
  | _ => ("TraceAligner", "firedSets", "[I", true)
def T_NT : u_T := fun k => match k with
  | 0 => ("TraceAligner$Net", "placeCount", "I", false)
  | 1 => ("TraceAligner$Net", "transitionCount", "I", false)
  | 2 => ("TraceAligner$Net", "labels", "[I", true)
  | 3 => ("TraceAligner$Net", "costs", "[I", true)
  | 4 => ("TraceAligner$Net", "inputs", "[I", true)
  | 5 => ("TraceAligner$Net", "outputs", "[I", true)
  | 6 => ("TraceAligner$Net", "firstTokens", "[I", true)
  | _ => ("TraceAligner$Net", "lastTokens", "[I", true)
def T_MG : u_T := fun k => match k with
  | 0 => ("TraceAligner$MarkingGraph", "net", "LTraceAligner$Net;", true)
  | 1 => ("TraceAligner$MarkingGraph", "codes", "[I", true)
  | 2 => ("TraceAligner$MarkingGraph", "enabledSets", "[I", true)
  | 3 => ("TraceAligner$MarkingGraph", "followers", "[I", true)
  | 4 => ("TraceAligner$MarkingGraph", "isExplored", "Z", false)
  | 5 => ("TraceAligner$MarkingGraph", "size", "I", false)
  | _ => ("TraceAligner$MarkingGraph", "lastMarking", "I", false)
def T_PF : u_T := fun k => match k with
  | 0 => ("TraceAligner$PathFinder", "net", "LTraceAligner$Net;", true)
  | 1 => ("TraceAligner$PathFinder", "graph", "LTraceAligner$MarkingGraph;", true)
  | 2 => ("TraceAligner$PathFinder", "labelCosts", "[I", true)
  | 3 => ("TraceAligner$PathFinder", "modelWeights", "[I", true)
  | _ => ("TraceAligner$PathFinder", "rest", "[[I", true)
def T_TR : u_T := fun k => match k with
  | 0 => ("TraceAligner$Trace", "labels", "[I", true)
  | 1 => ("TraceAligner$Trace", "size", "I", false)
  | 2 => ("TraceAligner$Trace", "times", "I", false)
  | 3 => ("TraceAligner$Trace", "isAligned", "Z", false)
  | 4 => ("TraceAligner$Trace", "leastCost", "I", false)
  | 5 => ("TraceAligner$Trace", "worstCost", "I", false)
  | 6 => ("TraceAligner$Trace", "moveCount", "I", false)
  | _ => ("TraceAligner$Trace", "path", "[I", false)
abbrev am_cl : List vw_C := [("TraceAligner", T_TA, 9), ("TraceAligner$Net", T_NT, 8), ("TraceAligner$MarkingGraph", T_MG, 7), ("TraceAligner$PathFinder", T_PF, 5), ("TraceAligner$Trace", T_TR, 8)]
set_option maxRecDepth 100000 in
def am_big_0 : List Jvm.Cond := [
  (Jvm.Cond.constant "TraceAligner$PathFinder" (41 : Nat) (1073741824 : Int32)),
  (Jvm.Cond.constant "TraceAlignerLaw" (7 : Nat) (2147483647 : Int32)),
  (Jvm.Cond.constant "TraceAlignerLaw" (8 : Nat) (790386105 : Int32)),
  (Jvm.Cond.constant "java/lang/Integer" (264 : Nat) (65536 : Int32)),
  (Jvm.Cond.initialized "TraceAlignerLaw"),
  (Jvm.Cond.initialized "TraceAligner"),
  (Jvm.Cond.initialized "TraceAligner$Net"),
  (Jvm.Cond.initialized "TraceAligner$MarkingGraph"),
  (Jvm.Cond.initialized "java/util/Arrays"),
  (Jvm.Cond.initialized "TraceAligner$PathFinder"),
  (Jvm.Cond.initialized "TraceAligner$Trace"),
  (Jvm.Cond.initialized "java/lang/Throwable"),
  (Jvm.Cond.initialized "java/lang/Exception"),
  (Jvm.Cond.initialized "java/lang/RuntimeException"),
  (Jvm.Cond.initialized "java/lang/IllegalStateException"),
  (Jvm.Cond.initialized "java/lang/IndexOutOfBoundsException"),
  (Jvm.Cond.initialized "java/lang/IllegalArgumentException"),
  (Jvm.Cond.initialized "java/lang/System"),
  (Jvm.Cond.initialized "java/lang/Math"),
  (Jvm.Cond.initialized "java/lang/Integer"),
  (Jvm.Cond.classLink "TraceAlignerLaw" (20 : Nat) "TraceAligner"),
  (Jvm.Cond.instantiable "TraceAligner" (9 : Nat)),
  (Jvm.Cond.methodLink "TraceAlignerLaw" (52 : Nat) ({ cls := "TraceAligner", name := "<init>", desc := "()V" } : Jvm.MethodName)),
  (Jvm.Cond.instanceMethod ({ cls := "TraceAligner", name := "<init>", desc := "()V" } : Jvm.MethodName)),
  (Jvm.Cond.code ({ cls := "TraceAligner", name := "<init>", desc := "()V" } : Jvm.MethodName) prog_1_method_1_code (2 : Nat) (Option.none : Option Jvm.ClassFile.FieldType)),
  (Jvm.Cond.methodLink "TraceAligner" (1 : Nat) ({ cls := "java/lang/Object", name := "<init>", desc := "()V" } : Jvm.MethodName)),
  (Jvm.Cond.instanceMethod ({ cls := "java/lang/Object", name := "<init>", desc := "()V" } : Jvm.MethodName)),
  (Jvm.Cond.code ({ cls := "java/lang/Object", name := "<init>", desc := "()V" } : Jvm.MethodName) object_method_1_code (1 : Nat) (Option.none : Option Jvm.ClassFile.FieldType)),
  (Jvm.Cond.classLink "TraceAligner" (7 : Nat) "TraceAligner$Net"),
  (Jvm.Cond.instantiable "TraceAligner$Net" (8 : Nat)),
  (Jvm.Cond.instanceMethod ({ cls := "TraceAligner$Net", name := "<init>", desc := "()V" } : Jvm.MethodName)),
  (Jvm.Cond.code ({ cls := "TraceAligner$Net", name := "<init>", desc := "()V" } : Jvm.MethodName) prog_3_method_1_code (1 : Nat) (Option.none : Option Jvm.ClassFile.FieldType)),
  (Jvm.Cond.methodLink "TraceAligner$Net" (3 : Nat) ({ cls := "java/lang/Object", name := "<init>", desc := "()V" } : Jvm.MethodName)),
  (Jvm.Cond.fieldLink "TraceAligner$Net" (30 : Nat) "TraceAligner$Net" "placeCount" "I"),
  (Jvm.Cond.fieldLink "TraceAligner" (57 : Nat) "TraceAligner$Net" "placeCount" "I"),
  (Jvm.Cond.fieldLink "TraceAligner$Net" (34 : Nat) "TraceAligner$Net" "transitionCount" "I"),
  (Jvm.Cond.fieldLink "TraceAligner$MarkingGraph" (56 : Nat) "TraceAligner$Net" "transitionCount" "I"),
  (Jvm.Cond.fieldLink "TraceAligner" (84 : Nat) "TraceAligner$Net" "transitionCount" "I"),
  (Jvm.Cond.fieldLink "TraceAligner$PathFinder" (83 : Nat) "TraceAligner$Net" "transitionCount" "I"),
  (Jvm.Cond.fieldLink "TraceAligner$Net" (9 : Nat) "TraceAligner$Net" "labels" "[I")]
set_option maxRecDepth 100000 in
def am_big_1 : List Jvm.Cond := [
  (Jvm.Cond.fieldLink "TraceAligner$PathFinder" (113 : Nat) "TraceAligner$Net" "labels" "[I"),
  (Jvm.Cond.fieldLink "TraceAligner$Net" (15 : Nat) "TraceAligner$Net" "costs" "[I"),
  (Jvm.Cond.fieldLink "TraceAligner$PathFinder" (88 : Nat) "TraceAligner$Net" "costs" "[I"),
  (Jvm.Cond.fieldLink "TraceAligner" (189 : Nat) "TraceAligner$Net" "costs" "[I"),
  (Jvm.Cond.fieldLink "TraceAligner$Net" (18 : Nat) "TraceAligner$Net" "inputs" "[I"),
  (Jvm.Cond.fieldLink "TraceAligner" (100 : Nat) "TraceAligner$Net" "inputs" "[I"),
  (Jvm.Cond.fieldLink "TraceAligner$Net" (21 : Nat) "TraceAligner$Net" "outputs" "[I"),
  (Jvm.Cond.fieldLink "TraceAligner" (103 : Nat) "TraceAligner$Net" "outputs" "[I"),
  (Jvm.Cond.fieldLink "TraceAligner$Net" (24 : Nat) "TraceAligner$Net" "firstTokens" "[I"),
  (Jvm.Cond.fieldLink "TraceAligner$MarkingGraph" (33 : Nat) "TraceAligner$Net" "firstTokens" "[I"),
  (Jvm.Cond.fieldLink "TraceAligner" (115 : Nat) "TraceAligner$Net" "firstTokens" "[I"),
  (Jvm.Cond.fieldLink "TraceAligner$Net" (27 : Nat) "TraceAligner$Net" "lastTokens" "[I"),
  (Jvm.Cond.fieldLink "TraceAligner$MarkingGraph" (49 : Nat) "TraceAligner$Net" "lastTokens" "[I"),
  (Jvm.Cond.fieldLink "TraceAligner" (112 : Nat) "TraceAligner$Net" "lastTokens" "[I"),
  (Jvm.Cond.lays "TraceAligner$Net" "TraceAligner$Net" "placeCount" "I"),
  (Jvm.Cond.lays "TraceAligner$Net" "TraceAligner$Net" "transitionCount" "I"),
  (Jvm.Cond.laysFinal "TraceAligner$Net" "TraceAligner$Net" "labels" "[I"),
  (Jvm.Cond.laysFinal "TraceAligner$Net" "TraceAligner$Net" "costs" "[I"),
  (Jvm.Cond.laysFinal "TraceAligner$Net" "TraceAligner$Net" "inputs" "[I"),
  (Jvm.Cond.laysFinal "TraceAligner$Net" "TraceAligner$Net" "outputs" "[I"),
  (Jvm.Cond.laysFinal "TraceAligner$Net" "TraceAligner$Net" "firstTokens" "[I"),
  (Jvm.Cond.laysFinal "TraceAligner$Net" "TraceAligner$Net" "lastTokens" "[I"),
  (Jvm.Cond.arrayClass Jvm.ClassFile.FieldType.int),
  (Jvm.Cond.classLink "TraceAligner" (16 : Nat) "TraceAligner$MarkingGraph"),
  (Jvm.Cond.instantiable "TraceAligner$MarkingGraph" (7 : Nat)),
  (Jvm.Cond.methodLink "TraceAligner" (18 : Nat) ({ cls := "TraceAligner$MarkingGraph", name := "<init>", desc := "(LTraceAligner$Net;)V" } : Jvm.MethodName)),
  (Jvm.Cond.instanceMethod ({ cls := "TraceAligner$MarkingGraph", name := "<init>", desc := "(LTraceAligner$Net;)V" } : Jvm.MethodName)),
  (Jvm.Cond.code ({ cls := "TraceAligner$MarkingGraph", name := "<init>", desc := "(LTraceAligner$Net;)V" } : Jvm.MethodName) prog_2_method_1_code (2 : Nat) (Option.none : Option Jvm.ClassFile.FieldType)),
  (Jvm.Cond.methodLink "TraceAligner$MarkingGraph" (3 : Nat) ({ cls := "java/lang/Object", name := "<init>", desc := "()V" } : Jvm.MethodName)),
  (Jvm.Cond.fieldLink "TraceAligner$MarkingGraph" (21 : Nat) "TraceAligner$MarkingGraph" "net" "LTraceAligner$Net;"),
  (Jvm.Cond.fieldLink "TraceAligner$MarkingGraph" (9 : Nat) "TraceAligner$MarkingGraph" "codes" "[I"),
  (Jvm.Cond.fieldLink "TraceAligner$MarkingGraph" (15 : Nat) "TraceAligner$MarkingGraph" "enabledSets" "[I"),
  (Jvm.Cond.fieldLink "TraceAligner" (148 : Nat) "TraceAligner$MarkingGraph" "enabledSets" "[I"),
  (Jvm.Cond.fieldLink "TraceAligner$MarkingGraph" (18 : Nat) "TraceAligner$MarkingGraph" "followers" "[I"),
  (Jvm.Cond.fieldLink "TraceAligner$MarkingGraph" (25 : Nat) "TraceAligner$MarkingGraph" "isExplored" "Z"),
  (Jvm.Cond.fieldLink "TraceAligner" (265 : Nat) "TraceAligner$MarkingGraph" "isExplored" "Z"),
  (Jvm.Cond.fieldLink "TraceAligner$MarkingGraph" (42 : Nat) "TraceAligner$MarkingGraph" "size" "I"),
  (Jvm.Cond.fieldLink "TraceAligner$PathFinder" (99 : Nat) "TraceAligner$MarkingGraph" "size" "I"),
  (Jvm.Cond.fieldLink "TraceAligner" (132 : Nat) "TraceAligner$MarkingGraph" "size" "I"),
  (Jvm.Cond.fieldLink "TraceAligner$MarkingGraph" (29 : Nat) "TraceAligner$MarkingGraph" "lastMarking" "I")]
set_option maxRecDepth 100000 in
def am_big_2 : List Jvm.Cond := [
  (Jvm.Cond.fieldLink "TraceAligner$PathFinder" (48 : Nat) "TraceAligner$MarkingGraph" "lastMarking" "I"),
  (Jvm.Cond.fieldLink "TraceAligner" (154 : Nat) "TraceAligner$MarkingGraph" "lastMarking" "I"),
  (Jvm.Cond.laysFinal "TraceAligner$MarkingGraph" "TraceAligner$MarkingGraph" "net" "LTraceAligner$Net;"),
  (Jvm.Cond.laysFinal "TraceAligner$MarkingGraph" "TraceAligner$MarkingGraph" "codes" "[I"),
  (Jvm.Cond.laysFinal "TraceAligner$MarkingGraph" "TraceAligner$MarkingGraph" "enabledSets" "[I"),
  (Jvm.Cond.laysFinal "TraceAligner$MarkingGraph" "TraceAligner$MarkingGraph" "followers" "[I"),
  (Jvm.Cond.lays "TraceAligner$MarkingGraph" "TraceAligner$MarkingGraph" "isExplored" "Z"),
  (Jvm.Cond.lays "TraceAligner$MarkingGraph" "TraceAligner$MarkingGraph" "size" "I"),
  (Jvm.Cond.lays "TraceAligner$MarkingGraph" "TraceAligner$MarkingGraph" "lastMarking" "I"),
  (Jvm.Cond.methodLink "TraceAligner" (29 : Nat) ({ cls := "java/util/Arrays", name := "fill", desc := "([II)V" } : Jvm.MethodName)),
  (Jvm.Cond.static ({ cls := "java/util/Arrays", name := "fill", desc := "([II)V" } : Jvm.MethodName)),
  (Jvm.Cond.code ({ cls := "java/util/Arrays", name := "fill", desc := "([II)V" } : Jvm.MethodName) prog_18_method_103_code (4 : Nat) (Option.none : Option Jvm.ClassFile.FieldType)),
  (Jvm.Cond.classLink "TraceAligner" (35 : Nat) "TraceAligner$PathFinder"),
  (Jvm.Cond.instantiable "TraceAligner$PathFinder" (5 : Nat)),
  (Jvm.Cond.methodLink "TraceAligner" (37 : Nat) ({ cls := "TraceAligner$PathFinder", name := "<init>", desc := "(LTraceAligner$Net;LTraceAligner$MarkingGraph;[I)V" } : Jvm.MethodName)),
  (Jvm.Cond.instanceMethod ({ cls := "TraceAligner$PathFinder", name := "<init>", desc := "(LTraceAligner$Net;LTraceAligner$MarkingGraph;[I)V" } : Jvm.MethodName)),
  (Jvm.Cond.code ({ cls := "TraceAligner$PathFinder", name := "<init>", desc := "(LTraceAligner$Net;LTraceAligner$MarkingGraph;[I)V" } : Jvm.MethodName) prog_4_method_1_code (4 : Nat) (Option.none : Option Jvm.ClassFile.FieldType)),
  (Jvm.Cond.methodLink "TraceAligner$PathFinder" (3 : Nat) ({ cls := "java/lang/Object", name := "<init>", desc := "()V" } : Jvm.MethodName)),
  (Jvm.Cond.classLink "TraceAligner$PathFinder" (15 : Nat) "[[I"),
  (Jvm.Cond.fieldLink "TraceAligner$PathFinder" (20 : Nat) "TraceAligner$PathFinder" "net" "LTraceAligner$Net;"),
  (Jvm.Cond.fieldLink "TraceAligner$PathFinder" (24 : Nat) "TraceAligner$PathFinder" "graph" "LTraceAligner$MarkingGraph;"),
  (Jvm.Cond.fieldLink "TraceAligner$PathFinder" (28 : Nat) "TraceAligner$PathFinder" "labelCosts" "[I"),
  (Jvm.Cond.fieldLink "TraceAligner$PathFinder" (9 : Nat) "TraceAligner$PathFinder" "modelWeights" "[I"),
  (Jvm.Cond.fieldLink "TraceAligner$PathFinder" (17 : Nat) "TraceAligner$PathFinder" "rest" "[[I"),
  (Jvm.Cond.laysFinal "TraceAligner$PathFinder" "TraceAligner$PathFinder" "net" "LTraceAligner$Net;"),
  (Jvm.Cond.laysFinal "TraceAligner$PathFinder" "TraceAligner$PathFinder" "graph" "LTraceAligner$MarkingGraph;"),
  (Jvm.Cond.laysFinal "TraceAligner$PathFinder" "TraceAligner$PathFinder" "labelCosts" "[I"),
  (Jvm.Cond.laysFinal "TraceAligner$PathFinder" "TraceAligner$PathFinder" "modelWeights" "[I"),
  (Jvm.Cond.laysFinal "TraceAligner$PathFinder" "TraceAligner$PathFinder" "rest" "[[I"),
  (Jvm.Cond.classLink "TraceAligner" (47 : Nat) "TraceAligner$Trace"),
  (Jvm.Cond.instantiable "TraceAligner$Trace" (8 : Nat)),
  (Jvm.Cond.instanceMethod ({ cls := "TraceAligner$Trace", name := "<init>", desc := "()V" } : Jvm.MethodName)),
  (Jvm.Cond.code ({ cls := "TraceAligner$Trace", name := "<init>", desc := "()V" } : Jvm.MethodName) prog_5_method_1_code (1 : Nat) (Option.none : Option Jvm.ClassFile.FieldType)),
  (Jvm.Cond.methodLink "TraceAligner$Trace" (3 : Nat) ({ cls := "java/lang/Object", name := "<init>", desc := "()V" } : Jvm.MethodName)),
  (Jvm.Cond.fieldLink "TraceAligner$Trace" (9 : Nat) "TraceAligner$Trace" "labels" "[I"),
  (Jvm.Cond.fieldLink "TraceAligner$PathFinder" (73 : Nat) "TraceAligner$Trace" "labels" "[I"),
  (Jvm.Cond.fieldLink "TraceAligner$Trace" (24 : Nat) "TraceAligner$Trace" "size" "I"),
  (Jvm.Cond.fieldLink "TraceAligner$PathFinder" (67 : Nat) "TraceAligner$Trace" "size" "I"),
  (Jvm.Cond.fieldLink "TraceAligner" (180 : Nat) "TraceAligner$Trace" "size" "I"),
  (Jvm.Cond.fieldLink "TraceAligner$Trace" (28 : Nat) "TraceAligner$Trace" "times" "I")]
set_option maxRecDepth 100000 in
def am_big_3 : List Jvm.Cond := [
  (Jvm.Cond.fieldLink "TraceAligner$Trace" (31 : Nat) "TraceAligner$Trace" "isAligned" "Z"),
  (Jvm.Cond.fieldLink "TraceAligner$PathFinder" (42 : Nat) "TraceAligner$Trace" "isAligned" "Z"),
  (Jvm.Cond.fieldLink "TraceAligner" (269 : Nat) "TraceAligner$Trace" "isAligned" "Z"),
  (Jvm.Cond.fieldLink "TraceAligner$PathFinder" (61 : Nat) "TraceAligner$Trace" "leastCost" "I"),
  (Jvm.Cond.fieldLink "TraceAligner$Trace" (35 : Nat) "TraceAligner$Trace" "leastCost" "I"),
  (Jvm.Cond.fieldLink "TraceAligner" (196 : Nat) "TraceAligner$Trace" "leastCost" "I"),
  (Jvm.Cond.fieldLink "TraceAligner$PathFinder" (70 : Nat) "TraceAligner$Trace" "worstCost" "I"),
  (Jvm.Cond.fieldLink "TraceAligner$Trace" (38 : Nat) "TraceAligner$Trace" "worstCost" "I"),
  (Jvm.Cond.fieldLink "TraceAligner" (221 : Nat) "TraceAligner$Trace" "worstCost" "I"),
  (Jvm.Cond.fieldLink "TraceAligner$PathFinder" (64 : Nat) "TraceAligner$Trace" "moveCount" "I"),
  (Jvm.Cond.fieldLink "TraceAligner$Trace" (41 : Nat) "TraceAligner$Trace" "moveCount" "I"),
  (Jvm.Cond.fieldLink "TraceAligner" (199 : Nat) "TraceAligner$Trace" "moveCount" "I"),
  (Jvm.Cond.fieldLink "TraceAligner$Trace" (15 : Nat) "TraceAligner$Trace" "path" "[I"),
  (Jvm.Cond.fieldLink "TraceAligner$PathFinder" (121 : Nat) "TraceAligner$Trace" "path" "[I"),
  (Jvm.Cond.fieldLink "TraceAligner" (204 : Nat) "TraceAligner$Trace" "path" "[I"),
  (Jvm.Cond.laysFinal "TraceAligner$Trace" "TraceAligner$Trace" "labels" "[I"),
  (Jvm.Cond.lays "TraceAligner$Trace" "TraceAligner$Trace" "size" "I"),
  (Jvm.Cond.lays "TraceAligner$Trace" "TraceAligner$Trace" "times" "I"),
  (Jvm.Cond.lays "TraceAligner$Trace" "TraceAligner$Trace" "isAligned" "Z"),
  (Jvm.Cond.lays "TraceAligner$Trace" "TraceAligner$Trace" "leastCost" "I"),
  (Jvm.Cond.lays "TraceAligner$Trace" "TraceAligner$Trace" "worstCost" "I"),
  (Jvm.Cond.lays "TraceAligner$Trace" "TraceAligner$Trace" "moveCount" "I"),
  (Jvm.Cond.lays "TraceAligner$Trace" "TraceAligner$Trace" "path" "[I"),
  (Jvm.Cond.fieldLink "TraceAligner" (10 : Nat) "TraceAligner" "net" "LTraceAligner$Net;"),
  (Jvm.Cond.fieldLink "TraceAligner" (21 : Nat) "TraceAligner" "graph" "LTraceAligner$MarkingGraph;"),
  (Jvm.Cond.fieldLink "TraceAligner" (40 : Nat) "TraceAligner" "finder" "LTraceAligner$PathFinder;"),
  (Jvm.Cond.fieldLink "TraceAligner" (25 : Nat) "TraceAligner" "labelCosts" "[I"),
  (Jvm.Cond.fieldLink "TraceAligner" (44 : Nat) "TraceAligner" "buffer" "[I"),
  (Jvm.Cond.fieldLink "TraceAligner" (162 : Nat) "TraceAligner" "buffered" "I"),
  (Jvm.Cond.fieldLink "TraceAligner" (49 : Nat) "TraceAligner" "traces" "[LTraceAligner$Trace;"),
  (Jvm.Cond.fieldLink "TraceAligner" (118 : Nat) "TraceAligner" "traceCount" "I"),
  (Jvm.Cond.fieldLink "TraceAligner" (54 : Nat) "TraceAligner" "firedSets" "[I"),
  (Jvm.Cond.laysFinal "TraceAligner" "TraceAligner" "net" "LTraceAligner$Net;"),
  (Jvm.Cond.laysFinal "TraceAligner" "TraceAligner" "graph" "LTraceAligner$MarkingGraph;"),
  (Jvm.Cond.laysFinal "TraceAligner" "TraceAligner" "finder" "LTraceAligner$PathFinder;"),
  (Jvm.Cond.laysFinal "TraceAligner" "TraceAligner" "labelCosts" "[I"),
  (Jvm.Cond.laysFinal "TraceAligner" "TraceAligner" "buffer" "[I"),
  (Jvm.Cond.lays "TraceAligner" "TraceAligner" "buffered" "I"),
  (Jvm.Cond.laysFinal "TraceAligner" "TraceAligner" "traces" "[LTraceAligner$Trace;"),
  (Jvm.Cond.lays "TraceAligner" "TraceAligner" "traceCount" "I")]
set_option maxRecDepth 100000 in
def am_big_4 : List Jvm.Cond := [
  (Jvm.Cond.laysFinal "TraceAligner" "TraceAligner" "firedSets" "[I"),
  (Jvm.Cond.methodLink "TraceAlignerLaw" (63 : Nat) ({ cls := "TraceAligner", name := "markings", desc := "()I" } : Jvm.MethodName)),
  (Jvm.Cond.instanceMethod ({ cls := "TraceAligner", name := "markings", desc := "()I" } : Jvm.MethodName)),
  (Jvm.Cond.selects "TraceAligner" ({ cls := "TraceAligner", name := "markings", desc := "()I" } : Jvm.MethodName) ({ cls := "TraceAligner", name := "markings", desc := "()I" } : Jvm.MethodName)),
  (Jvm.Cond.code ({ cls := "TraceAligner", name := "markings", desc := "()I" } : Jvm.MethodName) prog_1_method_8_code (1 : Nat) (Option.some Jvm.ClassFile.FieldType.int)),
  (Jvm.Cond.methodLink "TraceAligner" (129 : Nat) ({ cls := "TraceAligner$MarkingGraph", name := "explore", desc := "()V" } : Jvm.MethodName)),
  (Jvm.Cond.instanceMethod ({ cls := "TraceAligner$MarkingGraph", name := "explore", desc := "()V" } : Jvm.MethodName)),
  (Jvm.Cond.selects "TraceAligner$MarkingGraph" ({ cls := "TraceAligner$MarkingGraph", name := "explore", desc := "()V" } : Jvm.MethodName) ({ cls := "TraceAligner$MarkingGraph", name := "explore", desc := "()V" } : Jvm.MethodName)),
  (Jvm.Cond.code ({ cls := "TraceAligner$MarkingGraph", name := "explore", desc := "()V" } : Jvm.MethodName) prog_2_method_2_code (2 : Nat) (Option.none : Option Jvm.ClassFile.FieldType)),
  (Jvm.Cond.methodLink "TraceAligner$MarkingGraph" (38 : Nat) ({ cls := "TraceAligner$Net", name := "codeOf", desc := "([I)I" } : Jvm.MethodName)),
  (Jvm.Cond.instanceMethod ({ cls := "TraceAligner$Net", name := "codeOf", desc := "([I)I" } : Jvm.MethodName)),
  (Jvm.Cond.selects "TraceAligner$Net" ({ cls := "TraceAligner$Net", name := "codeOf", desc := "([I)I" } : Jvm.MethodName) ({ cls := "TraceAligner$Net", name := "codeOf", desc := "([I)I" } : Jvm.MethodName)),
  (Jvm.Cond.code ({ cls := "TraceAligner$Net", name := "codeOf", desc := "([I)I" } : Jvm.MethodName) prog_3_method_4_code (4 : Nat) (Option.some Jvm.ClassFile.FieldType.int)),
  (Jvm.Cond.methodLink "TraceAligner$MarkingGraph" (45 : Nat) ({ cls := "TraceAligner$MarkingGraph", name := "followAll", desc := "(I)Z" } : Jvm.MethodName)),
  (Jvm.Cond.instanceMethod ({ cls := "TraceAligner$MarkingGraph", name := "followAll", desc := "(I)Z" } : Jvm.MethodName)),
  (Jvm.Cond.selects "TraceAligner$MarkingGraph" ({ cls := "TraceAligner$MarkingGraph", name := "followAll", desc := "(I)Z" } : Jvm.MethodName) ({ cls := "TraceAligner$MarkingGraph", name := "followAll", desc := "(I)Z" } : Jvm.MethodName)),
  (Jvm.Cond.code ({ cls := "TraceAligner$MarkingGraph", name := "followAll", desc := "(I)Z" } : Jvm.MethodName) prog_2_method_3_code (5 : Nat) (Option.some Jvm.ClassFile.FieldType.boolean)),
  (Jvm.Cond.methodLink "TraceAligner$MarkingGraph" (59 : Nat) ({ cls := "TraceAligner$Net", name := "codeBehind", desc := "(II)I" } : Jvm.MethodName)),
  (Jvm.Cond.instanceMethod ({ cls := "TraceAligner$Net", name := "codeBehind", desc := "(II)I" } : Jvm.MethodName)),
  (Jvm.Cond.selects "TraceAligner$Net" ({ cls := "TraceAligner$Net", name := "codeBehind", desc := "(II)I" } : Jvm.MethodName) ({ cls := "TraceAligner$Net", name := "codeBehind", desc := "(II)I" } : Jvm.MethodName)),
  (Jvm.Cond.code ({ cls := "TraceAligner$Net", name := "codeBehind", desc := "(II)I" } : Jvm.MethodName) prog_3_method_5_code (8 : Nat) (Option.some Jvm.ClassFile.FieldType.int)),
  (Jvm.Cond.static ({ cls := "TraceAligner", name := "isIn", desc := "(II)Z" } : Jvm.MethodName)),
  (Jvm.Cond.code ({ cls := "TraceAligner", name := "isIn", desc := "(II)Z" } : Jvm.MethodName) prog_1_method_46_code (2 : Nat) (Option.some Jvm.ClassFile.FieldType.boolean)),
  (Jvm.Cond.static ({ cls := "TraceAligner", name := "tokensIn", desc := "(II)I" } : Jvm.MethodName)),
  (Jvm.Cond.code ({ cls := "TraceAligner", name := "tokensIn", desc := "(II)I" } : Jvm.MethodName) prog_1_method_47_code (2 : Nat) (Option.some Jvm.ClassFile.FieldType.int)),
  (Jvm.Cond.methodLink "TraceAligner$MarkingGraph" (63 : Nat) ({ cls := "TraceAligner$MarkingGraph", name := "numberOrAppend", desc := "(I)I" } : Jvm.MethodName)),
  (Jvm.Cond.instanceMethod ({ cls := "TraceAligner$MarkingGraph", name := "numberOrAppend", desc := "(I)I" } : Jvm.MethodName)),
  (Jvm.Cond.selects "TraceAligner$MarkingGraph" ({ cls := "TraceAligner$MarkingGraph", name := "numberOrAppend", desc := "(I)I" } : Jvm.MethodName) ({ cls := "TraceAligner$MarkingGraph", name := "numberOrAppend", desc := "(I)I" } : Jvm.MethodName)),
  (Jvm.Cond.code ({ cls := "TraceAligner$MarkingGraph", name := "numberOrAppend", desc := "(I)I" } : Jvm.MethodName) prog_2_method_5_code (3 : Nat) (Option.some Jvm.ClassFile.FieldType.int)),
  (Jvm.Cond.methodLink "TraceAligner$MarkingGraph" (52 : Nat) ({ cls := "TraceAligner$MarkingGraph", name := "numberOf", desc := "(I)I" } : Jvm.MethodName)),
  (Jvm.Cond.instanceMethod ({ cls := "TraceAligner$MarkingGraph", name := "numberOf", desc := "(I)I" } : Jvm.MethodName)),
  (Jvm.Cond.selects "TraceAligner$MarkingGraph" ({ cls := "TraceAligner$MarkingGraph", name := "numberOf", desc := "(I)I" } : Jvm.MethodName) ({ cls := "TraceAligner$MarkingGraph", name := "numberOf", desc := "(I)I" } : Jvm.MethodName)),
  (Jvm.Cond.code ({ cls := "TraceAligner$MarkingGraph", name := "numberOf", desc := "(I)I" } : Jvm.MethodName) prog_2_method_4_code (3 : Nat) (Option.some Jvm.ClassFile.FieldType.int)),
  (Jvm.Cond.methodLink "TraceAlignerLaw" (76 : Nat) ({ cls := "TraceAligner", name := "enabled", desc := "(I)I" } : Jvm.MethodName)),
  (Jvm.Cond.instanceMethod ({ cls := "TraceAligner", name := "enabled", desc := "(I)I" } : Jvm.MethodName)),
  (Jvm.Cond.selects "TraceAligner" ({ cls := "TraceAligner", name := "enabled", desc := "(I)I" } : Jvm.MethodName) ({ cls := "TraceAligner", name := "enabled", desc := "(I)I" } : Jvm.MethodName)),
  (Jvm.Cond.code ({ cls := "TraceAligner", name := "enabled", desc := "(I)I" } : Jvm.MethodName) prog_1_method_10_code (2 : Nat) (Option.some Jvm.ClassFile.FieldType.int)),
  (Jvm.Cond.methodLink "TraceAligner" (135 : Nat) ({ cls := "TraceAligner", name := "requireMarkings", desc := "()V" } : Jvm.MethodName)),
  (Jvm.Cond.instanceMethod ({ cls := "TraceAligner", name := "requireMarkings", desc := "()V" } : Jvm.MethodName)),
  (Jvm.Cond.code ({ cls := "TraceAligner", name := "requireMarkings", desc := "()V" } : Jvm.MethodName) prog_1_method_38_code (1 : Nat) (Option.none : Option Jvm.ClassFile.FieldType))]
set_option maxRecDepth 100000 in
def am_big_5 : List Jvm.Cond := [
  (Jvm.Cond.classLink "TraceAligner" (61 : Nat) "java/lang/IllegalStateException"),
  (Jvm.Cond.instantiable "java/lang/IllegalStateException" (6 : Nat)),
  (Jvm.Cond.selects "java/lang/IllegalStateException" ({ cls := "java/lang/Throwable", name := "fillInStackTrace", desc := "(I)Ljava/lang/Throwable;" } : Jvm.MethodName) ({ cls := "java/lang/Throwable", name := "fillInStackTrace", desc := "(I)Ljava/lang/Throwable;" } : Jvm.MethodName)),
  (Jvm.Cond.selects "java/lang/IllegalStateException" ({ cls := "java/lang/Throwable", name := "fillInStackTrace", desc := "()Ljava/lang/Throwable;" } : Jvm.MethodName) ({ cls := "java/lang/Throwable", name := "fillInStackTrace", desc := "()Ljava/lang/Throwable;" } : Jvm.MethodName)),
  (Jvm.Cond.lays "java/lang/IllegalStateException" "java/lang/Throwable" "cause" "Ljava/lang/Throwable;"),
  (Jvm.Cond.lays "java/lang/Throwable" "java/lang/Throwable" "cause" "Ljava/lang/Throwable;"),
  (Jvm.Cond.lays "java/lang/IllegalStateException" "java/lang/Throwable" "stackTrace" "[Ljava/lang/StackTraceElement;"),
  (Jvm.Cond.lays "java/lang/Throwable" "java/lang/Throwable" "stackTrace" "[Ljava/lang/StackTraceElement;"),
  (Jvm.Cond.lays "java/lang/IllegalStateException" "java/lang/Throwable" "suppressedExceptions" "Ljava/util/List;"),
  (Jvm.Cond.lays "java/lang/Throwable" "java/lang/Throwable" "suppressedExceptions" "Ljava/util/List;"),
  (Jvm.Cond.lays "java/lang/IllegalStateException" "java/lang/Throwable" "detailMessage" "Ljava/lang/String;"),
  (Jvm.Cond.lays "java/lang/Throwable" "java/lang/Throwable" "detailMessage" "Ljava/lang/String;"),
  (Jvm.Cond.lays "java/lang/IllegalStateException" "java/lang/Throwable" "backtrace" "Ljava/lang/Object;"),
  (Jvm.Cond.lays "java/lang/Throwable" "java/lang/Throwable" "backtrace" "Ljava/lang/Object;"),
  (Jvm.Cond.fieldLink "java/lang/Throwable" (198 : Nat) "java/lang/Throwable" "backtrace" "Ljava/lang/Object;"),
  (Jvm.Cond.instanceMethod ({ cls := "java/lang/Throwable", name := "<init>", desc := "()V" } : Jvm.MethodName)),
  (Jvm.Cond.code ({ cls := "java/lang/Throwable", name := "<init>", desc := "()V" } : Jvm.MethodName) prog_17_method_1_code (1 : Nat) (Option.none : Option Jvm.ClassFile.FieldType)),
  (Jvm.Cond.methodLink "java/lang/Throwable" (1 : Nat) ({ cls := "java/lang/Object", name := "<init>", desc := "()V" } : Jvm.MethodName)),
  (Jvm.Cond.fieldLink "java/lang/Throwable" (13 : Nat) "java/lang/Throwable" "UNASSIGNED_STACK" "[Ljava/lang/StackTraceElement;"),
  (Jvm.Cond.fieldLink "java/lang/Throwable" (20 : Nat) "java/lang/Throwable" "SUPPRESSED_SENTINEL" "Ljava/util/List;"),
  (Jvm.Cond.methodLink "java/lang/Throwable" (27 : Nat) ({ cls := "java/lang/Throwable", name := "fillInStackTrace", desc := "()Ljava/lang/Throwable;" } : Jvm.MethodName)),
  (Jvm.Cond.instanceMethod ({ cls := "java/lang/Throwable", name := "fillInStackTrace", desc := "()Ljava/lang/Throwable;" } : Jvm.MethodName)),
  (Jvm.Cond.selects "java/lang/IllegalArgumentException" ({ cls := "java/lang/Throwable", name := "fillInStackTrace", desc := "()Ljava/lang/Throwable;" } : Jvm.MethodName) ({ cls := "java/lang/Throwable", name := "fillInStackTrace", desc := "()Ljava/lang/Throwable;" } : Jvm.MethodName)),
  (Jvm.Cond.selects "java/lang/IndexOutOfBoundsException" ({ cls := "java/lang/Throwable", name := "fillInStackTrace", desc := "()Ljava/lang/Throwable;" } : Jvm.MethodName) ({ cls := "java/lang/Throwable", name := "fillInStackTrace", desc := "()Ljava/lang/Throwable;" } : Jvm.MethodName)),
  (Jvm.Cond.methodLink "java/lang/Throwable" (202 : Nat) ({ cls := "java/lang/Throwable", name := "fillInStackTrace", desc := "(I)Ljava/lang/Throwable;" } : Jvm.MethodName)),
  (Jvm.Cond.instanceMethod ({ cls := "java/lang/Throwable", name := "fillInStackTrace", desc := "(I)Ljava/lang/Throwable;" } : Jvm.MethodName)),
  (Jvm.Cond.instantiable "java/lang/Throwable" (6 : Nat)),
  (Jvm.Cond.methodLink "TraceAligner" (65 : Nat) ({ cls := "java/lang/IllegalStateException", name := "<init>", desc := "(Ljava/lang/String;)V" } : Jvm.MethodName)),
  (Jvm.Cond.instanceMethod ({ cls := "java/lang/IllegalStateException", name := "<init>", desc := "(Ljava/lang/String;)V" } : Jvm.MethodName)),
  (Jvm.Cond.code ({ cls := "java/lang/IllegalStateException", name := "<init>", desc := "(Ljava/lang/String;)V" } : Jvm.MethodName) prog_10_method_2_code (2 : Nat) (Option.none : Option Jvm.ClassFile.FieldType)),
  (Jvm.Cond.methodLink "java/lang/IllegalStateException" (7 : Nat) ({ cls := "java/lang/RuntimeException", name := "<init>", desc := "(Ljava/lang/String;)V" } : Jvm.MethodName)),
  (Jvm.Cond.instanceMethod ({ cls := "java/lang/RuntimeException", name := "<init>", desc := "(Ljava/lang/String;)V" } : Jvm.MethodName)),
  (Jvm.Cond.code ({ cls := "java/lang/RuntimeException", name := "<init>", desc := "(Ljava/lang/String;)V" } : Jvm.MethodName) prog_14_method_2_code (2 : Nat) (Option.none : Option Jvm.ClassFile.FieldType)),
  (Jvm.Cond.methodLink "java/lang/RuntimeException" (7 : Nat) ({ cls := "java/lang/Exception", name := "<init>", desc := "(Ljava/lang/String;)V" } : Jvm.MethodName)),
  (Jvm.Cond.instanceMethod ({ cls := "java/lang/Exception", name := "<init>", desc := "(Ljava/lang/String;)V" } : Jvm.MethodName)),
  (Jvm.Cond.code ({ cls := "java/lang/Exception", name := "<init>", desc := "(Ljava/lang/String;)V" } : Jvm.MethodName) prog_8_method_2_code (2 : Nat) (Option.none : Option Jvm.ClassFile.FieldType)),
  (Jvm.Cond.methodLink "java/lang/Exception" (7 : Nat) ({ cls := "java/lang/Throwable", name := "<init>", desc := "(Ljava/lang/String;)V" } : Jvm.MethodName)),
  (Jvm.Cond.instanceMethod ({ cls := "java/lang/Throwable", name := "<init>", desc := "(Ljava/lang/String;)V" } : Jvm.MethodName)),
  (Jvm.Cond.code ({ cls := "java/lang/Throwable", name := "<init>", desc := "(Ljava/lang/String;)V" } : Jvm.MethodName) prog_17_method_2_code (2 : Nat) (Option.none : Option Jvm.ClassFile.FieldType)),
  (Jvm.Cond.fieldLink "java/lang/Throwable" (31 : Nat) "java/lang/Throwable" "detailMessage" "Ljava/lang/String;")]
set_option maxRecDepth 100000 in
def am_big_6 : List Jvm.Cond := [
  (Jvm.Cond.fieldLink "java/lang/Throwable" (7 : Nat) "java/lang/Throwable" "cause" "Ljava/lang/Throwable;"),
  (Jvm.Cond.fieldLink "java/lang/Throwable" (17 : Nat) "java/lang/Throwable" "stackTrace" "[Ljava/lang/StackTraceElement;"),
  (Jvm.Cond.fieldLink "java/lang/Throwable" (24 : Nat) "java/lang/Throwable" "suppressedExceptions" "Ljava/util/List;"),
  (Jvm.Cond.lays "java/lang/IllegalStateException" "java/lang/Throwable" "depth" "I"),
  (Jvm.Cond.arrayClass Jvm.ClassFile.FieldType.byte),
  (Jvm.Cond.methodLink "TraceAligner" (138 : Nat) ({ cls := "TraceAligner", name := "requireMarking", desc := "(I)V" } : Jvm.MethodName)),
  (Jvm.Cond.instanceMethod ({ cls := "TraceAligner", name := "requireMarking", desc := "(I)V" } : Jvm.MethodName)),
  (Jvm.Cond.code ({ cls := "TraceAligner", name := "requireMarking", desc := "(I)V" } : Jvm.MethodName) prog_1_method_39_code (2 : Nat) (Option.none : Option Jvm.ClassFile.FieldType)),
  (Jvm.Cond.classLink "TraceAligner" (121 : Nat) "java/lang/IndexOutOfBoundsException"),
  (Jvm.Cond.instantiable "java/lang/IndexOutOfBoundsException" (6 : Nat)),
  (Jvm.Cond.selects "java/lang/IndexOutOfBoundsException" ({ cls := "java/lang/Throwable", name := "fillInStackTrace", desc := "(I)Ljava/lang/Throwable;" } : Jvm.MethodName) ({ cls := "java/lang/Throwable", name := "fillInStackTrace", desc := "(I)Ljava/lang/Throwable;" } : Jvm.MethodName)),
  (Jvm.Cond.lays "java/lang/IndexOutOfBoundsException" "java/lang/Throwable" "cause" "Ljava/lang/Throwable;"),
  (Jvm.Cond.lays "java/lang/IndexOutOfBoundsException" "java/lang/Throwable" "stackTrace" "[Ljava/lang/StackTraceElement;"),
  (Jvm.Cond.lays "java/lang/IndexOutOfBoundsException" "java/lang/Throwable" "suppressedExceptions" "Ljava/util/List;"),
  (Jvm.Cond.lays "java/lang/IndexOutOfBoundsException" "java/lang/Throwable" "detailMessage" "Ljava/lang/String;"),
  (Jvm.Cond.lays "java/lang/IndexOutOfBoundsException" "java/lang/Throwable" "backtrace" "Ljava/lang/Object;"),
  (Jvm.Cond.methodLink "TraceAligner" (125 : Nat) ({ cls := "java/lang/IndexOutOfBoundsException", name := "<init>", desc := "(Ljava/lang/String;)V" } : Jvm.MethodName)),
  (Jvm.Cond.instanceMethod ({ cls := "java/lang/IndexOutOfBoundsException", name := "<init>", desc := "(Ljava/lang/String;)V" } : Jvm.MethodName)),
  (Jvm.Cond.code ({ cls := "java/lang/IndexOutOfBoundsException", name := "<init>", desc := "(Ljava/lang/String;)V" } : Jvm.MethodName) prog_11_method_2_code (2 : Nat) (Option.none : Option Jvm.ClassFile.FieldType)),
  (Jvm.Cond.methodLink "java/lang/IndexOutOfBoundsException" (7 : Nat) ({ cls := "java/lang/RuntimeException", name := "<init>", desc := "(Ljava/lang/String;)V" } : Jvm.MethodName)),
  (Jvm.Cond.lays "java/lang/IndexOutOfBoundsException" "java/lang/Throwable" "depth" "I"),
  (Jvm.Cond.methodLink "TraceAlignerLaw" (79 : Nat) ({ cls := "TraceAligner", name := "next", desc := "(II)I" } : Jvm.MethodName)),
  (Jvm.Cond.instanceMethod ({ cls := "TraceAligner", name := "next", desc := "(II)I" } : Jvm.MethodName)),
  (Jvm.Cond.selects "TraceAligner" ({ cls := "TraceAligner", name := "next", desc := "(II)I" } : Jvm.MethodName) ({ cls := "TraceAligner", name := "next", desc := "(II)I" } : Jvm.MethodName)),
  (Jvm.Cond.code ({ cls := "TraceAligner", name := "next", desc := "(II)I" } : Jvm.MethodName) prog_1_method_11_code (3 : Nat) (Option.some Jvm.ClassFile.FieldType.int)),
  (Jvm.Cond.methodLink "TraceAligner" (93 : Nat) ({ cls := "TraceAligner", name := "requireTransition", desc := "(I)V" } : Jvm.MethodName)),
  (Jvm.Cond.instanceMethod ({ cls := "TraceAligner", name := "requireTransition", desc := "(I)V" } : Jvm.MethodName)),
  (Jvm.Cond.code ({ cls := "TraceAligner", name := "requireTransition", desc := "(I)V" } : Jvm.MethodName) prog_1_method_37_code (2 : Nat) (Option.none : Option Jvm.ClassFile.FieldType)),
  (Jvm.Cond.methodLink "TraceAligner" (151 : Nat) ({ cls := "TraceAligner$MarkingGraph", name := "follower", desc := "(II)I" } : Jvm.MethodName)),
  (Jvm.Cond.instanceMethod ({ cls := "TraceAligner$MarkingGraph", name := "follower", desc := "(II)I" } : Jvm.MethodName)),
  (Jvm.Cond.selects "TraceAligner$MarkingGraph" ({ cls := "TraceAligner$MarkingGraph", name := "follower", desc := "(II)I" } : Jvm.MethodName) ({ cls := "TraceAligner$MarkingGraph", name := "follower", desc := "(II)I" } : Jvm.MethodName)),
  (Jvm.Cond.code ({ cls := "TraceAligner$MarkingGraph", name := "follower", desc := "(II)I" } : Jvm.MethodName) prog_2_method_6_code (3 : Nat) (Option.some Jvm.ClassFile.FieldType.int)),
  (Jvm.Cond.methodLink "TraceAlignerLaw" (66 : Nat) ({ cls := "TraceAligner", name := "last", desc := "()I" } : Jvm.MethodName)),
  (Jvm.Cond.instanceMethod ({ cls := "TraceAligner", name := "last", desc := "()I" } : Jvm.MethodName)),
  (Jvm.Cond.selects "TraceAligner" ({ cls := "TraceAligner", name := "last", desc := "()I" } : Jvm.MethodName) ({ cls := "TraceAligner", name := "last", desc := "()I" } : Jvm.MethodName)),
  (Jvm.Cond.code ({ cls := "TraceAligner", name := "last", desc := "()I" } : Jvm.MethodName) prog_1_method_12_code (1 : Nat) (Option.some Jvm.ClassFile.FieldType.int)),
  (Jvm.Cond.methodLink "TraceAlignerLaw" (88 : Nat) ({ cls := "TraceAligner", name := "away", desc := "(I)I" } : Jvm.MethodName)),
  (Jvm.Cond.instanceMethod ({ cls := "TraceAligner", name := "away", desc := "(I)I" } : Jvm.MethodName)),
  (Jvm.Cond.selects "TraceAligner" ({ cls := "TraceAligner", name := "away", desc := "(I)I" } : Jvm.MethodName) ({ cls := "TraceAligner", name := "away", desc := "(I)I" } : Jvm.MethodName)),
  (Jvm.Cond.code ({ cls := "TraceAligner", name := "away", desc := "(I)I" } : Jvm.MethodName) prog_1_method_15_code (2 : Nat) (Option.some Jvm.ClassFile.FieldType.int))]
set_option maxRecDepth 100000 in
def am_big_7 : List Jvm.Cond := [
  (Jvm.Cond.methodLink "TraceAligner" (157 : Nat) ({ cls := "TraceAligner$PathFinder", name := "stepsToLast", desc := "(I)I" } : Jvm.MethodName)),
  (Jvm.Cond.instanceMethod ({ cls := "TraceAligner$PathFinder", name := "stepsToLast", desc := "(I)I" } : Jvm.MethodName)),
  (Jvm.Cond.selects "TraceAligner$PathFinder" ({ cls := "TraceAligner$PathFinder", name := "stepsToLast", desc := "(I)I" } : Jvm.MethodName) ({ cls := "TraceAligner$PathFinder", name := "stepsToLast", desc := "(I)I" } : Jvm.MethodName)),
  (Jvm.Cond.code ({ cls := "TraceAligner$PathFinder", name := "stepsToLast", desc := "(I)I" } : Jvm.MethodName) prog_4_method_2_code (2 : Nat) (Option.some Jvm.ClassFile.FieldType.int)),
  (Jvm.Cond.methodLink "TraceAligner$PathFinder" (31 : Nat) ({ cls := "java/util/Arrays", name := "fill", desc := "([II)V" } : Jvm.MethodName)),
  (Jvm.Cond.methodLink "TraceAligner$PathFinder" (37 : Nat) ({ cls := "TraceAligner$PathFinder", name := "weighEnd", desc := "([I)V" } : Jvm.MethodName)),
  (Jvm.Cond.instanceMethod ({ cls := "TraceAligner$PathFinder", name := "weighEnd", desc := "([I)V" } : Jvm.MethodName)),
  (Jvm.Cond.selects "TraceAligner$PathFinder" ({ cls := "TraceAligner$PathFinder", name := "weighEnd", desc := "([I)V" } : Jvm.MethodName) ({ cls := "TraceAligner$PathFinder", name := "weighEnd", desc := "([I)V" } : Jvm.MethodName)),
  (Jvm.Cond.code ({ cls := "TraceAligner$PathFinder", name := "weighEnd", desc := "([I)V" } : Jvm.MethodName) prog_4_method_5_code (2 : Nat) (Option.none : Option Jvm.ClassFile.FieldType)),
  (Jvm.Cond.methodLink "TraceAligner$PathFinder" (95 : Nat) ({ cls := "TraceAligner$MarkingGraph", name := "relax", desc := "([I[I)V" } : Jvm.MethodName)),
  (Jvm.Cond.instanceMethod ({ cls := "TraceAligner$MarkingGraph", name := "relax", desc := "([I[I)V" } : Jvm.MethodName)),
  (Jvm.Cond.selects "TraceAligner$MarkingGraph" ({ cls := "TraceAligner$MarkingGraph", name := "relax", desc := "([I[I)V" } : Jvm.MethodName) ({ cls := "TraceAligner$MarkingGraph", name := "relax", desc := "([I[I)V" } : Jvm.MethodName)),
  (Jvm.Cond.code ({ cls := "TraceAligner$MarkingGraph", name := "relax", desc := "([I[I)V" } : Jvm.MethodName) prog_2_method_7_code (4 : Nat) (Option.none : Option Jvm.ClassFile.FieldType)),
  (Jvm.Cond.methodLink "TraceAligner$MarkingGraph" (66 : Nat) ({ cls := "TraceAligner$MarkingGraph", name := "relaxOnce", desc := "([I[I)Z" } : Jvm.MethodName)),
  (Jvm.Cond.instanceMethod ({ cls := "TraceAligner$MarkingGraph", name := "relaxOnce", desc := "([I[I)Z" } : Jvm.MethodName)),
  (Jvm.Cond.selects "TraceAligner$MarkingGraph" ({ cls := "TraceAligner$MarkingGraph", name := "relaxOnce", desc := "([I[I)Z" } : Jvm.MethodName) ({ cls := "TraceAligner$MarkingGraph", name := "relaxOnce", desc := "([I[I)Z" } : Jvm.MethodName)),
  (Jvm.Cond.code ({ cls := "TraceAligner$MarkingGraph", name := "relaxOnce", desc := "([I[I)Z" } : Jvm.MethodName) prog_2_method_8_code (7 : Nat) (Option.some Jvm.ClassFile.FieldType.boolean)),
  (Jvm.Cond.methodLink "TraceAlignerLaw" (43 : Nat) ({ cls := "TraceAligner", name := "event", desc := "(I)I" } : Jvm.MethodName)),
  (Jvm.Cond.instanceMethod ({ cls := "TraceAligner", name := "event", desc := "(I)I" } : Jvm.MethodName)),
  (Jvm.Cond.selects "TraceAligner" ({ cls := "TraceAligner", name := "event", desc := "(I)I" } : Jvm.MethodName) ({ cls := "TraceAligner", name := "event", desc := "(I)I" } : Jvm.MethodName)),
  (Jvm.Cond.code ({ cls := "TraceAligner", name := "event", desc := "(I)I" } : Jvm.MethodName) prog_1_method_16_code (2 : Nat) (Option.some Jvm.ClassFile.FieldType.int)),
  (Jvm.Cond.methodLink "TraceAligner" (75 : Nat) ({ cls := "TraceAligner", name := "isNoLabel", desc := "(I)Z" } : Jvm.MethodName)),
  (Jvm.Cond.static ({ cls := "TraceAligner", name := "isNoLabel", desc := "(I)Z" } : Jvm.MethodName)),
  (Jvm.Cond.code ({ cls := "TraceAligner", name := "isNoLabel", desc := "(I)Z" } : Jvm.MethodName) prog_1_method_35_code (1 : Nat) (Option.some Jvm.ClassFile.FieldType.boolean)),
  (Jvm.Cond.classLink "TraceAligner" (79 : Nat) "java/lang/IllegalArgumentException"),
  (Jvm.Cond.instantiable "java/lang/IllegalArgumentException" (6 : Nat)),
  (Jvm.Cond.selects "java/lang/IllegalArgumentException" ({ cls := "java/lang/Throwable", name := "fillInStackTrace", desc := "(I)Ljava/lang/Throwable;" } : Jvm.MethodName) ({ cls := "java/lang/Throwable", name := "fillInStackTrace", desc := "(I)Ljava/lang/Throwable;" } : Jvm.MethodName)),
  (Jvm.Cond.lays "java/lang/IllegalArgumentException" "java/lang/Throwable" "cause" "Ljava/lang/Throwable;"),
  (Jvm.Cond.lays "java/lang/IllegalArgumentException" "java/lang/Throwable" "stackTrace" "[Ljava/lang/StackTraceElement;"),
  (Jvm.Cond.lays "java/lang/IllegalArgumentException" "java/lang/Throwable" "suppressedExceptions" "Ljava/util/List;"),
  (Jvm.Cond.lays "java/lang/IllegalArgumentException" "java/lang/Throwable" "detailMessage" "Ljava/lang/String;"),
  (Jvm.Cond.lays "java/lang/IllegalArgumentException" "java/lang/Throwable" "backtrace" "Ljava/lang/Object;"),
  (Jvm.Cond.methodLink "TraceAligner" (83 : Nat) ({ cls := "java/lang/IllegalArgumentException", name := "<init>", desc := "(Ljava/lang/String;)V" } : Jvm.MethodName)),
  (Jvm.Cond.instanceMethod ({ cls := "java/lang/IllegalArgumentException", name := "<init>", desc := "(Ljava/lang/String;)V" } : Jvm.MethodName)),
  (Jvm.Cond.code ({ cls := "java/lang/IllegalArgumentException", name := "<init>", desc := "(Ljava/lang/String;)V" } : Jvm.MethodName) prog_9_method_2_code (2 : Nat) (Option.none : Option Jvm.ClassFile.FieldType)),
  (Jvm.Cond.methodLink "java/lang/IllegalArgumentException" (7 : Nat) ({ cls := "java/lang/RuntimeException", name := "<init>", desc := "(Ljava/lang/String;)V" } : Jvm.MethodName)),
  (Jvm.Cond.lays "java/lang/IllegalArgumentException" "java/lang/Throwable" "depth" "I"),
  (Jvm.Cond.methodLink "TraceAlignerLaw" (46 : Nat) ({ cls := "TraceAligner", name := "store", desc := "(I)I" } : Jvm.MethodName)),
  (Jvm.Cond.instanceMethod ({ cls := "TraceAligner", name := "store", desc := "(I)I" } : Jvm.MethodName)),
  (Jvm.Cond.selects "TraceAligner" ({ cls := "TraceAligner", name := "store", desc := "(I)I" } : Jvm.MethodName) ({ cls := "TraceAligner", name := "store", desc := "(I)I" } : Jvm.MethodName))]
set_option maxRecDepth 100000 in
def am_big_8 : List Jvm.Cond := [
  (Jvm.Cond.code ({ cls := "TraceAligner", name := "store", desc := "(I)I" } : Jvm.MethodName) prog_1_method_17_code (2 : Nat) (Option.some Jvm.ClassFile.FieldType.int)),
  (Jvm.Cond.methodLink "TraceAligner" (171 : Nat) ({ cls := "TraceAligner$Trace", name := "take", desc := "([III)V" } : Jvm.MethodName)),
  (Jvm.Cond.instanceMethod ({ cls := "TraceAligner$Trace", name := "take", desc := "([III)V" } : Jvm.MethodName)),
  (Jvm.Cond.selects "TraceAligner$Trace" ({ cls := "TraceAligner$Trace", name := "take", desc := "([III)V" } : Jvm.MethodName) ({ cls := "TraceAligner$Trace", name := "take", desc := "([III)V" } : Jvm.MethodName)),
  (Jvm.Cond.code ({ cls := "TraceAligner$Trace", name := "take", desc := "([III)V" } : Jvm.MethodName) prog_5_method_2_code (4 : Nat) (Option.none : Option Jvm.ClassFile.FieldType)),
  (Jvm.Cond.methodLink "TraceAligner$Trace" (18 : Nat) ({ cls := "java/lang/System", name := "arraycopy", desc := "(Ljava/lang/Object;ILjava/lang/Object;II)V" } : Jvm.MethodName)),
  (Jvm.Cond.static ({ cls := "java/lang/System", name := "arraycopy", desc := "(Ljava/lang/Object;ILjava/lang/Object;II)V" } : Jvm.MethodName)),
  (Jvm.Cond.methodLink "TraceAlignerLaw" (49 : Nat) ({ cls := "TraceAligner", name := "length", desc := "(I)I" } : Jvm.MethodName)),
  (Jvm.Cond.instanceMethod ({ cls := "TraceAligner", name := "length", desc := "(I)I" } : Jvm.MethodName)),
  (Jvm.Cond.selects "TraceAligner" ({ cls := "TraceAligner", name := "length", desc := "(I)I" } : Jvm.MethodName) ({ cls := "TraceAligner", name := "length", desc := "(I)I" } : Jvm.MethodName)),
  (Jvm.Cond.code ({ cls := "TraceAligner", name := "length", desc := "(I)I" } : Jvm.MethodName) prog_1_method_19_code (2 : Nat) (Option.some Jvm.ClassFile.FieldType.int)),
  (Jvm.Cond.methodLink "TraceAligner" (177 : Nat) ({ cls := "TraceAligner", name := "requireTrace", desc := "(I)V" } : Jvm.MethodName)),
  (Jvm.Cond.instanceMethod ({ cls := "TraceAligner", name := "requireTrace", desc := "(I)V" } : Jvm.MethodName)),
  (Jvm.Cond.code ({ cls := "TraceAligner", name := "requireTrace", desc := "(I)V" } : Jvm.MethodName) prog_1_method_40_code (2 : Nat) (Option.none : Option Jvm.ClassFile.FieldType)),
  (Jvm.Cond.methodLink "TraceAlignerLaw" (82 : Nat) ({ cls := "TraceAligner", name := "cost", desc := "(I)I" } : Jvm.MethodName)),
  (Jvm.Cond.instanceMethod ({ cls := "TraceAligner", name := "cost", desc := "(I)I" } : Jvm.MethodName)),
  (Jvm.Cond.selects "TraceAligner" ({ cls := "TraceAligner", name := "cost", desc := "(I)I" } : Jvm.MethodName) ({ cls := "TraceAligner", name := "cost", desc := "(I)I" } : Jvm.MethodName)),
  (Jvm.Cond.code ({ cls := "TraceAligner", name := "cost", desc := "(I)I" } : Jvm.MethodName) prog_1_method_22_code (2 : Nat) (Option.some Jvm.ClassFile.FieldType.int)),
  (Jvm.Cond.methodLink "TraceAligner" (192 : Nat) ({ cls := "TraceAligner", name := "alignedTrace", desc := "(I)LTraceAligner$Trace;" } : Jvm.MethodName)),
  (Jvm.Cond.instanceMethod ({ cls := "TraceAligner", name := "alignedTrace", desc := "(I)LTraceAligner$Trace;" } : Jvm.MethodName)),
  (Jvm.Cond.code ({ cls := "TraceAligner", name := "alignedTrace", desc := "(I)LTraceAligner$Trace;" } : Jvm.MethodName) prog_1_method_42_code (2 : Nat) (Option.some (Jvm.ClassFile.FieldType.object "TraceAligner$Trace"))),
  (Jvm.Cond.methodLink "TraceAligner" (236 : Nat) ({ cls := "TraceAligner$PathFinder", name := "align", desc := "(LTraceAligner$Trace;)V" } : Jvm.MethodName)),
  (Jvm.Cond.instanceMethod ({ cls := "TraceAligner$PathFinder", name := "align", desc := "(LTraceAligner$Trace;)V" } : Jvm.MethodName)),
  (Jvm.Cond.selects "TraceAligner$PathFinder" ({ cls := "TraceAligner$PathFinder", name := "align", desc := "(LTraceAligner$Trace;)V" } : Jvm.MethodName) ({ cls := "TraceAligner$PathFinder", name := "align", desc := "(LTraceAligner$Trace;)V" } : Jvm.MethodName)),
  (Jvm.Cond.code ({ cls := "TraceAligner$PathFinder", name := "align", desc := "(LTraceAligner$Trace;)V" } : Jvm.MethodName) prog_4_method_3_code (3 : Nat) (Option.none : Option Jvm.ClassFile.FieldType)),
  (Jvm.Cond.methodLink "TraceAligner$PathFinder" (54 : Nat) ({ cls := "TraceAligner$Trace", name := "setNoAlignment", desc := "()V" } : Jvm.MethodName)),
  (Jvm.Cond.instanceMethod ({ cls := "TraceAligner$Trace", name := "setNoAlignment", desc := "()V" } : Jvm.MethodName)),
  (Jvm.Cond.selects "TraceAligner$Trace" ({ cls := "TraceAligner$Trace", name := "setNoAlignment", desc := "()V" } : Jvm.MethodName) ({ cls := "TraceAligner$Trace", name := "setNoAlignment", desc := "()V" } : Jvm.MethodName)),
  (Jvm.Cond.code ({ cls := "TraceAligner$Trace", name := "setNoAlignment", desc := "()V" } : Jvm.MethodName) prog_5_method_4_code (1 : Nat) (Option.none : Option Jvm.ClassFile.FieldType)),
  (Jvm.Cond.methodLink "TraceAligner$PathFinder" (57 : Nat) ({ cls := "TraceAligner$PathFinder", name := "weighAll", desc := "(LTraceAligner$Trace;)V" } : Jvm.MethodName)),
  (Jvm.Cond.instanceMethod ({ cls := "TraceAligner$PathFinder", name := "weighAll", desc := "(LTraceAligner$Trace;)V" } : Jvm.MethodName)),
  (Jvm.Cond.selects "TraceAligner$PathFinder" ({ cls := "TraceAligner$PathFinder", name := "weighAll", desc := "(LTraceAligner$Trace;)V" } : Jvm.MethodName) ({ cls := "TraceAligner$PathFinder", name := "weighAll", desc := "(LTraceAligner$Trace;)V" } : Jvm.MethodName)),
  (Jvm.Cond.code ({ cls := "TraceAligner$PathFinder", name := "weighAll", desc := "(LTraceAligner$Trace;)V" } : Jvm.MethodName) prog_4_method_4_code (3 : Nat) (Option.none : Option Jvm.ClassFile.FieldType)),
  (Jvm.Cond.methodLink "TraceAligner$PathFinder" (91 : Nat) ({ cls := "TraceAligner$PathFinder", name := "weighEvent", desc := "([I[II)V" } : Jvm.MethodName)),
  (Jvm.Cond.instanceMethod ({ cls := "TraceAligner$PathFinder", name := "weighEvent", desc := "([I[II)V" } : Jvm.MethodName)),
  (Jvm.Cond.selects "TraceAligner$PathFinder" ({ cls := "TraceAligner$PathFinder", name := "weighEvent", desc := "([I[II)V" } : Jvm.MethodName) ({ cls := "TraceAligner$PathFinder", name := "weighEvent", desc := "([I[II)V" } : Jvm.MethodName)),
  (Jvm.Cond.code ({ cls := "TraceAligner$PathFinder", name := "weighEvent", desc := "([I[II)V" } : Jvm.MethodName) prog_4_method_6_code (8 : Nat) (Option.none : Option Jvm.ClassFile.FieldType)),
  (Jvm.Cond.methodLink "TraceAligner$PathFinder" (100 : Nat) ({ cls := "TraceAligner$PathFinder", name := "traceWeight", desc := "(I)I" } : Jvm.MethodName)),
  (Jvm.Cond.instanceMethod ({ cls := "TraceAligner$PathFinder", name := "traceWeight", desc := "(I)I" } : Jvm.MethodName)),
  (Jvm.Cond.selects "TraceAligner$PathFinder" ({ cls := "TraceAligner$PathFinder", name := "traceWeight", desc := "(I)I" } : Jvm.MethodName) ({ cls := "TraceAligner$PathFinder", name := "traceWeight", desc := "(I)I" } : Jvm.MethodName))]
set_option maxRecDepth 100000 in
def am_big_9 : List Jvm.Cond := [
  (Jvm.Cond.code ({ cls := "TraceAligner$PathFinder", name := "traceWeight", desc := "(I)I" } : Jvm.MethodName) prog_4_method_7_code (2 : Nat) (Option.some Jvm.ClassFile.FieldType.int)),
  (Jvm.Cond.methodLink "TraceAligner$PathFinder" (104 : Nat) ({ cls := "java/lang/Math", name := "min", desc := "(II)I" } : Jvm.MethodName)),
  (Jvm.Cond.static ({ cls := "java/lang/Math", name := "min", desc := "(II)I" } : Jvm.MethodName)),
  (Jvm.Cond.code ({ cls := "java/lang/Math", name := "min", desc := "(II)I" } : Jvm.MethodName) prog_13_method_69_code (2 : Nat) (Option.some Jvm.ClassFile.FieldType.int)),
  (Jvm.Cond.methodLink "TraceAligner$PathFinder" (110 : Nat) ({ cls := "TraceAligner$MarkingGraph", name := "follower", desc := "(II)I" } : Jvm.MethodName)),
  (Jvm.Cond.methodLink "TraceAligner$PathFinder" (76 : Nat) ({ cls := "TraceAligner$Trace", name := "makeRoom", desc := "(I)V" } : Jvm.MethodName)),
  (Jvm.Cond.instanceMethod ({ cls := "TraceAligner$Trace", name := "makeRoom", desc := "(I)V" } : Jvm.MethodName)),
  (Jvm.Cond.selects "TraceAligner$Trace" ({ cls := "TraceAligner$Trace", name := "makeRoom", desc := "(I)V" } : Jvm.MethodName) ({ cls := "TraceAligner$Trace", name := "makeRoom", desc := "(I)V" } : Jvm.MethodName)),
  (Jvm.Cond.code ({ cls := "TraceAligner$Trace", name := "makeRoom", desc := "(I)V" } : Jvm.MethodName) prog_5_method_5_code (2 : Nat) (Option.none : Option Jvm.ClassFile.FieldType)),
  (Jvm.Cond.methodLink "TraceAligner$Trace" (44 : Nat) ({ cls := "java/lang/Math", name := "max", desc := "(II)I" } : Jvm.MethodName)),
  (Jvm.Cond.static ({ cls := "java/lang/Math", name := "max", desc := "(II)I" } : Jvm.MethodName)),
  (Jvm.Cond.code ({ cls := "java/lang/Math", name := "max", desc := "(II)I" } : Jvm.MethodName) prog_13_method_65_code (2 : Nat) (Option.some Jvm.ClassFile.FieldType.int)),
  (Jvm.Cond.methodLink "TraceAligner$PathFinder" (80 : Nat) ({ cls := "TraceAligner$PathFinder", name := "walk", desc := "(LTraceAligner$Trace;)V" } : Jvm.MethodName)),
  (Jvm.Cond.instanceMethod ({ cls := "TraceAligner$PathFinder", name := "walk", desc := "(LTraceAligner$Trace;)V" } : Jvm.MethodName)),
  (Jvm.Cond.selects "TraceAligner$PathFinder" ({ cls := "TraceAligner$PathFinder", name := "walk", desc := "(LTraceAligner$Trace;)V" } : Jvm.MethodName) ({ cls := "TraceAligner$PathFinder", name := "walk", desc := "(LTraceAligner$Trace;)V" } : Jvm.MethodName)),
  (Jvm.Cond.code ({ cls := "TraceAligner$PathFinder", name := "walk", desc := "(LTraceAligner$Trace;)V" } : Jvm.MethodName) prog_4_method_8_code (7 : Nat) (Option.none : Option Jvm.ClassFile.FieldType)),
  (Jvm.Cond.methodLink "TraceAligner$PathFinder" (114 : Nat) ({ cls := "TraceAligner$PathFinder", name := "bestMove", desc := "(LTraceAligner$Trace;II)I" } : Jvm.MethodName)),
  (Jvm.Cond.instanceMethod ({ cls := "TraceAligner$PathFinder", name := "bestMove", desc := "(LTraceAligner$Trace;II)I" } : Jvm.MethodName)),
  (Jvm.Cond.selects "TraceAligner$PathFinder" ({ cls := "TraceAligner$PathFinder", name := "bestMove", desc := "(LTraceAligner$Trace;II)I" } : Jvm.MethodName) ({ cls := "TraceAligner$PathFinder", name := "bestMove", desc := "(LTraceAligner$Trace;II)I" } : Jvm.MethodName)),
  (Jvm.Cond.code ({ cls := "TraceAligner$PathFinder", name := "bestMove", desc := "(LTraceAligner$Trace;II)I" } : Jvm.MethodName) prog_4_method_9_code (9 : Nat) (Option.some Jvm.ClassFile.FieldType.int)),
  (Jvm.Cond.static ({ cls := "TraceAligner", name := "packMove", desc := "(IIII)I" } : Jvm.MethodName)),
  (Jvm.Cond.code ({ cls := "TraceAligner", name := "packMove", desc := "(IIII)I" } : Jvm.MethodName) prog_1_method_48_code (4 : Nat) (Option.some Jvm.ClassFile.FieldType.int)),
  (Jvm.Cond.methodLink "TraceAligner$PathFinder" (131 : Nat) ({ cls := "TraceAligner$PathFinder", name := "bestModelTransition", desc := "([II)I" } : Jvm.MethodName)),
  (Jvm.Cond.instanceMethod ({ cls := "TraceAligner$PathFinder", name := "bestModelTransition", desc := "([II)I" } : Jvm.MethodName)),
  (Jvm.Cond.selects "TraceAligner$PathFinder" ({ cls := "TraceAligner$PathFinder", name := "bestModelTransition", desc := "([II)I" } : Jvm.MethodName) ({ cls := "TraceAligner$PathFinder", name := "bestModelTransition", desc := "([II)I" } : Jvm.MethodName)),
  (Jvm.Cond.code ({ cls := "TraceAligner$PathFinder", name := "bestModelTransition", desc := "([II)I" } : Jvm.MethodName) prog_4_method_10_code (5 : Nat) (Option.some Jvm.ClassFile.FieldType.int)),
  (Jvm.Cond.static ({ cls := "TraceAligner", name := "transitionOf", desc := "(I)I" } : Jvm.MethodName)),
  (Jvm.Cond.code ({ cls := "TraceAligner", name := "transitionOf", desc := "(I)I" } : Jvm.MethodName) prog_1_method_50_code (1 : Nat) (Option.some Jvm.ClassFile.FieldType.int)),
  (Jvm.Cond.static ({ cls := "TraceAligner", name := "labelOf", desc := "(I)I" } : Jvm.MethodName)),
  (Jvm.Cond.code ({ cls := "TraceAligner", name := "labelOf", desc := "(I)I" } : Jvm.MethodName) prog_1_method_51_code (1 : Nat) (Option.some Jvm.ClassFile.FieldType.int)),
  (Jvm.Cond.methodLink "TraceAlignerLaw" (69 : Nat) ({ cls := "TraceAligner", name := "moves", desc := "(I)I" } : Jvm.MethodName)),
  (Jvm.Cond.instanceMethod ({ cls := "TraceAligner", name := "moves", desc := "(I)I" } : Jvm.MethodName)),
  (Jvm.Cond.selects "TraceAligner" ({ cls := "TraceAligner", name := "moves", desc := "(I)I" } : Jvm.MethodName) ({ cls := "TraceAligner", name := "moves", desc := "(I)I" } : Jvm.MethodName)),
  (Jvm.Cond.code ({ cls := "TraceAligner", name := "moves", desc := "(I)I" } : Jvm.MethodName) prog_1_method_23_code (2 : Nat) (Option.some Jvm.ClassFile.FieldType.int)),
  (Jvm.Cond.methodLink "TraceAlignerLaw" (72 : Nat) ({ cls := "TraceAligner", name := "move", desc := "(III)I" } : Jvm.MethodName)),
  (Jvm.Cond.instanceMethod ({ cls := "TraceAligner", name := "move", desc := "(III)I" } : Jvm.MethodName)),
  (Jvm.Cond.selects "TraceAligner" ({ cls := "TraceAligner", name := "move", desc := "(III)I" } : Jvm.MethodName) ({ cls := "TraceAligner", name := "move", desc := "(III)I" } : Jvm.MethodName)),
  (Jvm.Cond.code ({ cls := "TraceAligner", name := "move", desc := "(III)I" } : Jvm.MethodName) prog_1_method_24_code (6 : Nat) (Option.some Jvm.ClassFile.FieldType.int)),
  (Jvm.Cond.methodLink "TraceAligner" (207 : Nat) ({ cls := "TraceAligner", name := "kindOf", desc := "(I)I" } : Jvm.MethodName)),
  (Jvm.Cond.static ({ cls := "TraceAligner", name := "kindOf", desc := "(I)I" } : Jvm.MethodName))]
set_option maxRecDepth 100000 in
def am_big_10 : List Jvm.Cond := [
  (Jvm.Cond.code ({ cls := "TraceAligner", name := "kindOf", desc := "(I)I" } : Jvm.MethodName) prog_1_method_49_code (1 : Nat) (Option.some Jvm.ClassFile.FieldType.int)),
  (Jvm.Cond.methodLink "TraceAligner" (210 : Nat) ({ cls := "TraceAligner", name := "transitionOf", desc := "(I)I" } : Jvm.MethodName)),
  (Jvm.Cond.methodLink "TraceAligner" (213 : Nat) ({ cls := "TraceAligner", name := "labelOf", desc := "(I)I" } : Jvm.MethodName)),
  (Jvm.Cond.methodLink "TraceAligner" (216 : Nat) ({ cls := "TraceAligner", name := "markingOf", desc := "(I)I" } : Jvm.MethodName)),
  (Jvm.Cond.static ({ cls := "TraceAligner", name := "markingOf", desc := "(I)I" } : Jvm.MethodName)),
  (Jvm.Cond.code ({ cls := "TraceAligner", name := "markingOf", desc := "(I)I" } : Jvm.MethodName) prog_1_method_52_code (1 : Nat) (Option.some Jvm.ClassFile.FieldType.int)),
  (Jvm.Cond.methodLink "TraceAlignerLaw" (85 : Nat) ({ cls := "TraceAligner", name := "worst", desc := "(I)I" } : Jvm.MethodName)),
  (Jvm.Cond.instanceMethod ({ cls := "TraceAligner", name := "worst", desc := "(I)I" } : Jvm.MethodName)),
  (Jvm.Cond.selects "TraceAligner" ({ cls := "TraceAligner", name := "worst", desc := "(I)I" } : Jvm.MethodName) ({ cls := "TraceAligner", name := "worst", desc := "(I)I" } : Jvm.MethodName)),
  (Jvm.Cond.code ({ cls := "TraceAligner", name := "worst", desc := "(I)I" } : Jvm.MethodName) prog_1_method_25_code (2 : Nat) (Option.some Jvm.ClassFile.FieldType.int)),
  (Jvm.Cond.methodLink "TraceAlignerLaw" (15 : Nat) ({ cls := "TraceAlignerLaw", name := "below", desc := "(II)I" } : Jvm.MethodName)),
  (Jvm.Cond.static ({ cls := "TraceAlignerLaw", name := "below", desc := "(II)I" } : Jvm.MethodName)),
  (Jvm.Cond.code ({ cls := "TraceAlignerLaw", name := "below", desc := "(II)I" } : Jvm.MethodName) method_2_code (2 : Nat) (Option.some Jvm.ClassFile.FieldType.int)),
  (Jvm.Cond.methodLink "TraceAlignerLaw" (9 : Nat) ({ cls := "TraceAlignerLaw", name := "cell", desc := "([II)I" } : Jvm.MethodName)),
  (Jvm.Cond.static ({ cls := "TraceAlignerLaw", name := "cell", desc := "([II)I" } : Jvm.MethodName)),
  (Jvm.Cond.code ({ cls := "TraceAlignerLaw", name := "cell", desc := "([II)I" } : Jvm.MethodName) method_3_code (2 : Nat) (Option.some Jvm.ClassFile.FieldType.int)),
  (Jvm.Cond.methodLink "TraceAlignerLaw" (55 : Nat) ({ cls := "TraceAlignerLaw", name := "build", desc := "(LTraceAligner;[II[I[I[I)Z" } : Jvm.MethodName)),
  (Jvm.Cond.static ({ cls := "TraceAlignerLaw", name := "build", desc := "(LTraceAligner;[II[I[I[I)Z" } : Jvm.MethodName)),
  (Jvm.Cond.code ({ cls := "TraceAlignerLaw", name := "build", desc := "(LTraceAligner;[II[I[I[I)Z" } : Jvm.MethodName) method_4_code (9 : Nat) (Option.some Jvm.ClassFile.FieldType.boolean)),
  (Jvm.Cond.methodLink "TraceAlignerLaw" (19 : Nat) ({ cls := "TraceAligner", name := "addPlace", desc := "()I" } : Jvm.MethodName)),
  (Jvm.Cond.instanceMethod ({ cls := "TraceAligner", name := "addPlace", desc := "()I" } : Jvm.MethodName)),
  (Jvm.Cond.selects "TraceAligner" ({ cls := "TraceAligner", name := "addPlace", desc := "()I" } : Jvm.MethodName) ({ cls := "TraceAligner", name := "addPlace", desc := "()I" } : Jvm.MethodName)),
  (Jvm.Cond.code ({ cls := "TraceAligner", name := "addPlace", desc := "()I" } : Jvm.MethodName) prog_1_method_2_code (1 : Nat) (Option.some Jvm.ClassFile.FieldType.int)),
  (Jvm.Cond.methodLink "TraceAligner" (68 : Nat) ({ cls := "TraceAligner", name := "forgetMarkings", desc := "()V" } : Jvm.MethodName)),
  (Jvm.Cond.instanceMethod ({ cls := "TraceAligner", name := "forgetMarkings", desc := "()V" } : Jvm.MethodName)),
  (Jvm.Cond.code ({ cls := "TraceAligner", name := "forgetMarkings", desc := "()V" } : Jvm.MethodName) prog_1_method_33_code (1 : Nat) (Option.none : Option Jvm.ClassFile.FieldType)),
  (Jvm.Cond.methodLink "TraceAligner" (186 : Nat) ({ cls := "TraceAligner", name := "forgetAlignments", desc := "()V" } : Jvm.MethodName)),
  (Jvm.Cond.instanceMethod ({ cls := "TraceAligner", name := "forgetAlignments", desc := "()V" } : Jvm.MethodName)),
  (Jvm.Cond.code ({ cls := "TraceAligner", name := "forgetAlignments", desc := "()V" } : Jvm.MethodName) prog_1_method_34_code (2 : Nat) (Option.none : Option Jvm.ClassFile.FieldType)),
  (Jvm.Cond.methodLink "TraceAligner" (71 : Nat) ({ cls := "TraceAligner$Net", name := "appendPlace", desc := "()I" } : Jvm.MethodName)),
  (Jvm.Cond.instanceMethod ({ cls := "TraceAligner$Net", name := "appendPlace", desc := "()I" } : Jvm.MethodName)),
  (Jvm.Cond.selects "TraceAligner$Net" ({ cls := "TraceAligner$Net", name := "appendPlace", desc := "()I" } : Jvm.MethodName) ({ cls := "TraceAligner$Net", name := "appendPlace", desc := "()I" } : Jvm.MethodName)),
  (Jvm.Cond.code ({ cls := "TraceAligner$Net", name := "appendPlace", desc := "()I" } : Jvm.MethodName) prog_3_method_2_code (1 : Nat) (Option.some Jvm.ClassFile.FieldType.int)),
  (Jvm.Cond.methodLink "TraceAlignerLaw" (25 : Nat) ({ cls := "TraceAligner", name := "setTokens", desc := "(IIZ)I" } : Jvm.MethodName)),
  (Jvm.Cond.instanceMethod ({ cls := "TraceAligner", name := "setTokens", desc := "(IIZ)I" } : Jvm.MethodName)),
  (Jvm.Cond.selects "TraceAligner" ({ cls := "TraceAligner", name := "setTokens", desc := "(IIZ)I" } : Jvm.MethodName) ({ cls := "TraceAligner", name := "setTokens", desc := "(IIZ)I" } : Jvm.MethodName)),
  (Jvm.Cond.code ({ cls := "TraceAligner", name := "setTokens", desc := "(IIZ)I" } : Jvm.MethodName) prog_1_method_5_code (6 : Nat) (Option.some Jvm.ClassFile.FieldType.int)),
  (Jvm.Cond.methodLink "TraceAligner" (97 : Nat) ({ cls := "TraceAligner", name := "requirePlace", desc := "(I)V" } : Jvm.MethodName)),
  (Jvm.Cond.instanceMethod ({ cls := "TraceAligner", name := "requirePlace", desc := "(I)V" } : Jvm.MethodName)),
  (Jvm.Cond.code ({ cls := "TraceAligner", name := "requirePlace", desc := "(I)V" } : Jvm.MethodName) prog_1_method_36_code (2 : Nat) (Option.none : Option Jvm.ClassFile.FieldType))]
set_option maxRecDepth 100000 in
def am_big_11 : List Jvm.Cond := [
  (Jvm.Cond.methodLink "TraceAlignerLaw" (29 : Nat) ({ cls := "TraceAligner", name := "addTransition", desc := "(I)I" } : Jvm.MethodName)),
  (Jvm.Cond.instanceMethod ({ cls := "TraceAligner", name := "addTransition", desc := "(I)I" } : Jvm.MethodName)),
  (Jvm.Cond.selects "TraceAligner" ({ cls := "TraceAligner", name := "addTransition", desc := "(I)I" } : Jvm.MethodName) ({ cls := "TraceAligner", name := "addTransition", desc := "(I)I" } : Jvm.MethodName)),
  (Jvm.Cond.code ({ cls := "TraceAligner", name := "addTransition", desc := "(I)I" } : Jvm.MethodName) prog_1_method_3_code (2 : Nat) (Option.some Jvm.ClassFile.FieldType.int)),
  (Jvm.Cond.methodLink "TraceAligner" (89 : Nat) ({ cls := "TraceAligner$Net", name := "appendTransition", desc := "(I)I" } : Jvm.MethodName)),
  (Jvm.Cond.instanceMethod ({ cls := "TraceAligner$Net", name := "appendTransition", desc := "(I)I" } : Jvm.MethodName)),
  (Jvm.Cond.selects "TraceAligner$Net" ({ cls := "TraceAligner$Net", name := "appendTransition", desc := "(I)I" } : Jvm.MethodName) ({ cls := "TraceAligner$Net", name := "appendTransition", desc := "(I)I" } : Jvm.MethodName)),
  (Jvm.Cond.code ({ cls := "TraceAligner$Net", name := "appendTransition", desc := "(I)I" } : Jvm.MethodName) prog_3_method_3_code (2 : Nat) (Option.some Jvm.ClassFile.FieldType.int)),
  (Jvm.Cond.methodLink "TraceAlignerLaw" (33 : Nat) ({ cls := "TraceAligner", name := "link", desc := "(IIZZ)Z" } : Jvm.MethodName)),
  (Jvm.Cond.instanceMethod ({ cls := "TraceAligner", name := "link", desc := "(IIZZ)Z" } : Jvm.MethodName)),
  (Jvm.Cond.selects "TraceAligner" ({ cls := "TraceAligner", name := "link", desc := "(IIZZ)Z" } : Jvm.MethodName) ({ cls := "TraceAligner", name := "link", desc := "(IIZZ)Z" } : Jvm.MethodName)),
  (Jvm.Cond.code ({ cls := "TraceAligner", name := "link", desc := "(IIZZ)Z" } : Jvm.MethodName) prog_1_method_4_code (7 : Nat) (Option.some Jvm.ClassFile.FieldType.boolean)),
  (Jvm.Cond.methodLink "TraceAligner" (106 : Nat) ({ cls := "TraceAligner", name := "isIn", desc := "(II)Z" } : Jvm.MethodName)),
  (Jvm.Cond.methodLink "TraceAlignerLaw" (37 : Nat) ({ cls := "TraceAligner", name := "setCost", desc := "(II)I" } : Jvm.MethodName)),
  (Jvm.Cond.instanceMethod ({ cls := "TraceAligner", name := "setCost", desc := "(II)I" } : Jvm.MethodName)),
  (Jvm.Cond.selects "TraceAligner" ({ cls := "TraceAligner", name := "setCost", desc := "(II)I" } : Jvm.MethodName) ({ cls := "TraceAligner", name := "setCost", desc := "(II)I" } : Jvm.MethodName)),
  (Jvm.Cond.code ({ cls := "TraceAligner", name := "setCost", desc := "(II)I" } : Jvm.MethodName) prog_1_method_21_code (4 : Nat) (Option.some Jvm.ClassFile.FieldType.int)),
  (Jvm.Cond.methodLink "TraceAligner" (183 : Nat) ({ cls := "TraceAligner", name := "requireCost", desc := "(I)V" } : Jvm.MethodName)),
  (Jvm.Cond.static ({ cls := "TraceAligner", name := "requireCost", desc := "(I)V" } : Jvm.MethodName)),
  (Jvm.Cond.code ({ cls := "TraceAligner", name := "requireCost", desc := "(I)V" } : Jvm.MethodName) prog_1_method_41_code (1 : Nat) (Option.none : Option Jvm.ClassFile.FieldType)),
  (Jvm.Cond.methodLink "TraceAlignerLaw" (40 : Nat) ({ cls := "TraceAligner", name := "count", desc := "(I)I" } : Jvm.MethodName)),
  (Jvm.Cond.instanceMethod ({ cls := "TraceAligner", name := "count", desc := "(I)I" } : Jvm.MethodName)),
  (Jvm.Cond.selects "TraceAligner" ({ cls := "TraceAligner", name := "count", desc := "(I)I" } : Jvm.MethodName) ({ cls := "TraceAligner", name := "count", desc := "(I)I" } : Jvm.MethodName)),
  (Jvm.Cond.code ({ cls := "TraceAligner", name := "count", desc := "(I)I" } : Jvm.MethodName) prog_1_method_6_code (2 : Nat) (Option.some Jvm.ClassFile.FieldType.int)),
  (Jvm.Cond.methodLink "TraceAlignerLaw" (59 : Nat) ({ cls := "TraceAlignerLaw", name := "traces", desc := "(LTraceAligner;[III[[I[I)I" } : Jvm.MethodName)),
  (Jvm.Cond.static ({ cls := "TraceAlignerLaw", name := "traces", desc := "(LTraceAligner;[III[[I[I)I" } : Jvm.MethodName)),
  (Jvm.Cond.code ({ cls := "TraceAlignerLaw", name := "traces", desc := "(LTraceAligner;[III[[I[I)I" } : Jvm.MethodName) method_5_code (10 : Nat) (Option.some Jvm.ClassFile.FieldType.int)),
  (Jvm.Cond.methodLink "TraceAlignerLaw" (96 : Nat) ({ cls := "java/lang/Integer", name := "numberOfTrailingZeros", desc := "(I)I" } : Jvm.MethodName)),
  (Jvm.Cond.static ({ cls := "java/lang/Integer", name := "numberOfTrailingZeros", desc := "(I)I" } : Jvm.MethodName)),
  (Jvm.Cond.code ({ cls := "java/lang/Integer", name := "numberOfTrailingZeros", desc := "(I)I" } : Jvm.MethodName) prog_12_method_48_code (2 : Nat) (Option.some Jvm.ClassFile.FieldType.int)),
  (Jvm.Cond.methodLink "TraceAlignerLaw" (91 : Nat) ({ cls := "java/lang/Math", name := "max", desc := "(II)I" } : Jvm.MethodName)),
  (Jvm.Cond.classLink "TraceAlignerLaw" (53 : Nat) "[I"),
  (Jvm.Cond.selects "TraceAligner" ({ cls := "TraceAligner", name := "requireMarkings", desc := "()V" } : Jvm.MethodName) ({ cls := "TraceAligner", name := "requireMarkings", desc := "()V" } : Jvm.MethodName)),
  (Jvm.Cond.selects "TraceAligner" ({ cls := "TraceAligner", name := "requireMarking", desc := "(I)V" } : Jvm.MethodName) ({ cls := "TraceAligner", name := "requireMarking", desc := "(I)V" } : Jvm.MethodName)),
  (Jvm.Cond.selects "TraceAligner" ({ cls := "TraceAligner", name := "requireTransition", desc := "(I)V" } : Jvm.MethodName) ({ cls := "TraceAligner", name := "requireTransition", desc := "(I)V" } : Jvm.MethodName)),
  (Jvm.Cond.selects "TraceAligner" ({ cls := "TraceAligner", name := "requireTrace", desc := "(I)V" } : Jvm.MethodName) ({ cls := "TraceAligner", name := "requireTrace", desc := "(I)V" } : Jvm.MethodName)),
  (Jvm.Cond.selects "TraceAligner" ({ cls := "TraceAligner", name := "alignedTrace", desc := "(I)LTraceAligner$Trace;" } : Jvm.MethodName) ({ cls := "TraceAligner", name := "alignedTrace", desc := "(I)LTraceAligner$Trace;" } : Jvm.MethodName)),
  (Jvm.Cond.selects "TraceAligner" ({ cls := "TraceAligner", name := "forgetMarkings", desc := "()V" } : Jvm.MethodName) ({ cls := "TraceAligner", name := "forgetMarkings", desc := "()V" } : Jvm.MethodName)),
  (Jvm.Cond.selects "TraceAligner" ({ cls := "TraceAligner", name := "forgetAlignments", desc := "()V" } : Jvm.MethodName) ({ cls := "TraceAligner", name := "forgetAlignments", desc := "()V" } : Jvm.MethodName)),
  (Jvm.Cond.selects "TraceAligner" ({ cls := "TraceAligner", name := "requirePlace", desc := "(I)V" } : Jvm.MethodName) ({ cls := "TraceAligner", name := "requirePlace", desc := "(I)V" } : Jvm.MethodName))]
set_option maxRecDepth 100000 in
def am_big_12 : List Jvm.Cond := [
  (Jvm.Cond.native ({ cls := "java/lang/Throwable", name := "fillInStackTrace", desc := "(I)Ljava/lang/Throwable;" } : Jvm.MethodName)),
  (Jvm.Cond.native ({ cls := "java/lang/System", name := "arraycopy", desc := "(Ljava/lang/Object;ILjava/lang/Object;II)V" } : Jvm.MethodName))]
def am_big : List Jvm.Cond := am_big_0 ++ (am_big_1 ++ (am_big_2 ++ (am_big_3 ++ (am_big_4 ++ (am_big_5 ++ (am_big_6 ++ (am_big_7 ++ (am_big_8 ++ (am_big_9 ++ (am_big_10 ++ (am_big_11 ++ (am_big_12))))))))))))
theorem am_okM_app {own : String} {cl : List vw_C} {big : List Jvm.Cond} {a b : List am_MR} (ha : ∀ q ∈ a, am_okM own cl big q) (hb : ∀ q ∈ b, am_okM own cl big q) : ∀ q ∈ a ++ b, am_okM own cl big q := fun q h => (List.mem_append.mp h).elim (ha q) (hb q)
abbrev am_G0 : List vw_C × List Jvm.Cond := (am_cl, am_big)
set_option maxRecDepth 100000 in
theorem am_big_good0 : am_big.all goodWord = true := by decide +kernel
theorem am_big_good : ∀ w ∈ am_big, goodWord w = true := fun w h => List.all_eq_true.mp am_big_good0 w h
set_option maxRecDepth 100000 in
theorem am_big_in0 : ∀ w ∈ am_big_0, w ∈ lw_tbl := List.forall_mem_cons.mpr ⟨List.mem_of_getElem? (i := 372) rfl, List.forall_mem_cons.mpr ⟨List.mem_of_getElem? (i := 512) rfl, List.forall_mem_cons.mpr ⟨List.mem_of_getElem? (i := 516) rfl, List.forall_mem_cons.mpr ⟨List.mem_of_getElem? (i := 581) rfl, List.forall_mem_cons.mpr ⟨List.mem_of_getElem? (i := 9) rfl, List.forall_mem_cons.mpr ⟨List.mem_of_getElem? (i := 10) rfl, List.forall_mem_cons.mpr ⟨List.mem_of_getElem? (i := 11) rfl, List.forall_mem_cons.mpr ⟨List.mem_of_getElem? (i := 12) rfl, List.forall_mem_cons.mpr ⟨List.mem_of_getElem? (i := 13) rfl, List.forall_mem_cons.mpr ⟨List.mem_of_getElem? (i := 14) rfl, List.forall_mem_cons.mpr ⟨List.mem_of_getElem? (i := 15) rfl, List.forall_mem_cons.mpr ⟨List.mem_of_getElem? (i := 16) rfl, List.forall_mem_cons.mpr ⟨List.mem_of_getElem? (i := 17) rfl, List.forall_mem_cons.mpr ⟨List.mem_of_getElem? (i := 18) rfl, List.forall_mem_cons.mpr ⟨List.mem_of_getElem? (i := 19) rfl, List.forall_mem_cons.mpr ⟨List.mem_of_getElem? (i := 20) rfl, List.forall_mem_cons.mpr ⟨List.mem_of_getElem? (i := 21) rfl, List.forall_mem_cons.mpr ⟨List.mem_of_getElem? (i := 22) rfl, List.forall_mem_cons.mpr ⟨List.mem_of_getElem? (i := 23) rfl, List.forall_mem_cons.mpr ⟨List.mem_of_getElem? (i := 24) rfl, List.forall_mem_cons.mpr ⟨List.mem_of_getElem? (i := 25) rfl, List.forall_mem_cons.mpr ⟨List.mem_of_getElem? (i := 26) rfl, List.forall_mem_cons.mpr ⟨List.mem_of_getElem? (i := 27) rfl, List.forall_mem_cons.mpr ⟨List.mem_of_getElem? (i := 28) rfl, List.forall_mem_cons.mpr ⟨List.mem_of_getElem? (i := 29) rfl, List.forall_mem_cons.mpr ⟨List.mem_of_getElem? (i := 30) rfl, List.forall_mem_cons.mpr ⟨List.mem_of_getElem? (i := 31) rfl, List.forall_mem_cons.mpr ⟨List.mem_of_getElem? (i := 32) rfl, List.forall_mem_cons.mpr ⟨List.mem_of_getElem? (i := 33) rfl, List.forall_mem_cons.mpr ⟨List.mem_of_getElem? (i := 34) rfl, List.forall_mem_cons.mpr ⟨List.mem_of_getElem? (i := 36) rfl, List.forall_mem_cons.mpr ⟨List.mem_of_getElem? (i := 37) rfl, List.forall_mem_cons.mpr ⟨List.mem_of_getElem? (i := 38) rfl, List.forall_mem_cons.mpr ⟨List.mem_of_getElem? (i := 39) rfl, List.forall_mem_cons.mpr ⟨List.mem_of_getElem? (i := 40) rfl, List.forall_mem_cons.mpr ⟨List.mem_of_getElem? (i := 41) rfl, List.forall_mem_cons.mpr ⟨List.mem_of_getElem? (i := 42) rfl, List.forall_mem_cons.mpr ⟨List.mem_of_getElem? (i := 43) rfl, List.forall_mem_cons.mpr ⟨List.mem_of_getElem? (i := 44) rfl, List.forall_mem_cons.mpr ⟨List.mem_of_getElem? (i := 45) rfl, fun _ h => absurd h List.not_mem_nil⟩⟩⟩⟩⟩⟩⟩⟩⟩⟩⟩⟩⟩⟩⟩⟩⟩⟩⟩⟩⟩⟩⟩⟩⟩⟩⟩⟩⟩⟩⟩⟩⟩⟩⟩⟩⟩⟩⟩⟩
set_option maxRecDepth 100000 in
theorem am_big_in1 : ∀ w ∈ am_big_1, w ∈ lw_tbl := List.forall_mem_cons.mpr ⟨List.mem_of_getElem? (i := 46) rfl, List.forall_mem_cons.mpr ⟨List.mem_of_getElem? (i := 47) rfl, List.forall_mem_cons.mpr ⟨List.mem_of_getElem? (i := 48) rfl, List.forall_mem_cons.mpr ⟨List.mem_of_getElem? (i := 49) rfl, List.forall_mem_cons.mpr ⟨List.mem_of_getElem? (i := 50) rfl, List.forall_mem_cons.mpr ⟨List.mem_of_getElem? (i := 51) rfl, List.forall_mem_cons.mpr ⟨List.mem_of_getElem? (i := 52) rfl, List.forall_mem_cons.mpr ⟨List.mem_of_getElem? (i := 53) rfl, List.forall_mem_cons.mpr ⟨List.mem_of_getElem? (i := 54) rfl, List.forall_mem_cons.mpr ⟨List.mem_of_getElem? (i := 55) rfl, List.forall_mem_cons.mpr ⟨List.mem_of_getElem? (i := 56) rfl, List.forall_mem_cons.mpr ⟨List.mem_of_getElem? (i := 57) rfl, List.forall_mem_cons.mpr ⟨List.mem_of_getElem? (i := 58) rfl, List.forall_mem_cons.mpr ⟨List.mem_of_getElem? (i := 59) rfl, List.forall_mem_cons.mpr ⟨List.mem_of_getElem? (i := 60) rfl, List.forall_mem_cons.mpr ⟨List.mem_of_getElem? (i := 62) rfl, List.forall_mem_cons.mpr ⟨List.mem_of_getElem? (i := 64) rfl, List.forall_mem_cons.mpr ⟨List.mem_of_getElem? (i := 66) rfl, List.forall_mem_cons.mpr ⟨List.mem_of_getElem? (i := 68) rfl, List.forall_mem_cons.mpr ⟨List.mem_of_getElem? (i := 70) rfl, List.forall_mem_cons.mpr ⟨List.mem_of_getElem? (i := 72) rfl, List.forall_mem_cons.mpr ⟨List.mem_of_getElem? (i := 74) rfl, List.forall_mem_cons.mpr ⟨List.mem_of_getElem? (i := 77) rfl, List.forall_mem_cons.mpr ⟨List.mem_of_getElem? (i := 78) rfl, List.forall_mem_cons.mpr ⟨List.mem_of_getElem? (i := 79) rfl, List.forall_mem_cons.mpr ⟨List.mem_of_getElem? (i := 80) rfl, List.forall_mem_cons.mpr ⟨List.mem_of_getElem? (i := 81) rfl, List.forall_mem_cons.mpr ⟨List.mem_of_getElem? (i := 82) rfl, List.forall_mem_cons.mpr ⟨List.mem_of_getElem? (i := 83) rfl, List.forall_mem_cons.mpr ⟨List.mem_of_getElem? (i := 84) rfl, List.forall_mem_cons.mpr ⟨List.mem_of_getElem? (i := 85) rfl, List.forall_mem_cons.mpr ⟨List.mem_of_getElem? (i := 86) rfl, List.forall_mem_cons.mpr ⟨List.mem_of_getElem? (i := 87) rfl, List.forall_mem_cons.mpr ⟨List.mem_of_getElem? (i := 88) rfl, List.forall_mem_cons.mpr ⟨List.mem_of_getElem? (i := 89) rfl, List.forall_mem_cons.mpr ⟨List.mem_of_getElem? (i := 90) rfl, List.forall_mem_cons.mpr ⟨List.mem_of_getElem? (i := 91) rfl, List.forall_mem_cons.mpr ⟨List.mem_of_getElem? (i := 92) rfl, List.forall_mem_cons.mpr ⟨List.mem_of_getElem? (i := 93) rfl, List.forall_mem_cons.mpr ⟨List.mem_of_getElem? (i := 94) rfl, fun _ h => absurd h List.not_mem_nil⟩⟩⟩⟩⟩⟩⟩⟩⟩⟩⟩⟩⟩⟩⟩⟩⟩⟩⟩⟩⟩⟩⟩⟩⟩⟩⟩⟩⟩⟩⟩⟩⟩⟩⟩⟩⟩⟩⟩⟩
set_option maxRecDepth 100000 in
theorem am_big_in2 : ∀ w ∈ am_big_2, w ∈ lw_tbl := List.forall_mem_cons.mpr ⟨List.mem_of_getElem? (i := 95) rfl, List.forall_mem_cons.mpr ⟨List.mem_of_getElem? (i := 96) rfl, List.forall_mem_cons.mpr ⟨List.mem_of_getElem? (i := 97) rfl, List.forall_mem_cons.mpr ⟨List.mem_of_getElem? (i := 99) rfl, List.forall_mem_cons.mpr ⟨List.mem_of_getElem? (i := 101) rfl, List.forall_mem_cons.mpr ⟨List.mem_of_getElem? (i := 103) rfl, List.forall_mem_cons.mpr ⟨List.mem_of_getElem? (i := 105) rfl, List.forall_mem_cons.mpr ⟨List.mem_of_getElem? (i := 107) rfl, List.forall_mem_cons.mpr ⟨List.mem_of_getElem? (i := 109) rfl, List.forall_mem_cons.mpr ⟨List.mem_of_getElem? (i := 112) rfl, List.forall_mem_cons.mpr ⟨List.mem_of_getElem? (i := 113) rfl, List.forall_mem_cons.mpr ⟨List.mem_of_getElem? (i := 114) rfl, List.forall_mem_cons.mpr ⟨List.mem_of_getElem? (i := 115) rfl, List.forall_mem_cons.mpr ⟨List.mem_of_getElem? (i := 116) rfl, List.forall_mem_cons.mpr ⟨List.mem_of_getElem? (i := 117) rfl, List.forall_mem_cons.mpr ⟨List.mem_of_getElem? (i := 118) rfl, List.forall_mem_cons.mpr ⟨List.mem_of_getElem? (i := 119) rfl, List.forall_mem_cons.mpr ⟨List.mem_of_getElem? (i := 120) rfl, List.forall_mem_cons.mpr ⟨List.mem_of_getElem? (i := 121) rfl, List.forall_mem_cons.mpr ⟨List.mem_of_getElem? (i := 123) rfl, List.forall_mem_cons.mpr ⟨List.mem_of_getElem? (i := 124) rfl, List.forall_mem_cons.mpr ⟨List.mem_of_getElem? (i := 125) rfl, List.forall_mem_cons.mpr ⟨List.mem_of_getElem? (i := 126) rfl, List.forall_mem_cons.mpr ⟨List.mem_of_getElem? (i := 127) rfl, List.forall_mem_cons.mpr ⟨List.mem_of_getElem? (i := 128) rfl, List.forall_mem_cons.mpr ⟨List.mem_of_getElem? (i := 130) rfl, List.forall_mem_cons.mpr ⟨List.mem_of_getElem? (i := 132) rfl, List.forall_mem_cons.mpr ⟨List.mem_of_getElem? (i := 134) rfl, List.forall_mem_cons.mpr ⟨List.mem_of_getElem? (i := 136) rfl, List.forall_mem_cons.mpr ⟨List.mem_of_getElem? (i := 139) rfl, List.forall_mem_cons.mpr ⟨List.mem_of_getElem? (i := 141) rfl, List.forall_mem_cons.mpr ⟨List.mem_of_getElem? (i := 143) rfl, List.forall_mem_cons.mpr ⟨List.mem_of_getElem? (i := 144) rfl, List.forall_mem_cons.mpr ⟨List.mem_of_getElem? (i := 145) rfl, List.forall_mem_cons.mpr ⟨List.mem_of_getElem? (i := 146) rfl, List.forall_mem_cons.mpr ⟨List.mem_of_getElem? (i := 147) rfl, List.forall_mem_cons.mpr ⟨List.mem_of_getElem? (i := 148) rfl, List.forall_mem_cons.mpr ⟨List.mem_of_getElem? (i := 149) rfl, List.forall_mem_cons.mpr ⟨List.mem_of_getElem? (i := 150) rfl, List.forall_mem_cons.mpr ⟨List.mem_of_getElem? (i := 151) rfl, fun _ h => absurd h List.not_mem_nil⟩⟩⟩⟩⟩⟩⟩⟩⟩⟩⟩⟩⟩⟩⟩⟩⟩⟩⟩⟩⟩⟩⟩⟩⟩⟩⟩⟩⟩⟩⟩⟩⟩⟩⟩⟩⟩⟩⟩⟩
set_option maxRecDepth 100000 in
theorem am_big_in3 : ∀ w ∈ am_big_3, w ∈ lw_tbl := List.forall_mem_cons.mpr ⟨List.mem_of_getElem? (i := 152) rfl, List.forall_mem_cons.mpr ⟨List.mem_of_getElem? (i := 153) rfl, List.forall_mem_cons.mpr ⟨List.mem_of_getElem? (i := 154) rfl, List.forall_mem_cons.mpr ⟨List.mem_of_getElem? (i := 155) rfl, List.forall_mem_cons.mpr ⟨List.mem_of_getElem? (i := 156) rfl, List.forall_mem_cons.mpr ⟨List.mem_of_getElem? (i := 157) rfl, List.forall_mem_cons.mpr ⟨List.mem_of_getElem? (i := 158) rfl, List.forall_mem_cons.mpr ⟨List.mem_of_getElem? (i := 159) rfl, List.forall_mem_cons.mpr ⟨List.mem_of_getElem? (i := 160) rfl, List.forall_mem_cons.mpr ⟨List.mem_of_getElem? (i := 161) rfl, List.forall_mem_cons.mpr ⟨List.mem_of_getElem? (i := 162) rfl, List.forall_mem_cons.mpr ⟨List.mem_of_getElem? (i := 163) rfl, List.forall_mem_cons.mpr ⟨List.mem_of_getElem? (i := 164) rfl, List.forall_mem_cons.mpr ⟨List.mem_of_getElem? (i := 165) rfl, List.forall_mem_cons.mpr ⟨List.mem_of_getElem? (i := 166) rfl, List.forall_mem_cons.mpr ⟨List.mem_of_getElem? (i := 167) rfl, List.forall_mem_cons.mpr ⟨List.mem_of_getElem? (i := 169) rfl, List.forall_mem_cons.mpr ⟨List.mem_of_getElem? (i := 171) rfl, List.forall_mem_cons.mpr ⟨List.mem_of_getElem? (i := 173) rfl, List.forall_mem_cons.mpr ⟨List.mem_of_getElem? (i := 175) rfl, List.forall_mem_cons.mpr ⟨List.mem_of_getElem? (i := 177) rfl, List.forall_mem_cons.mpr ⟨List.mem_of_getElem? (i := 179) rfl, List.forall_mem_cons.mpr ⟨List.mem_of_getElem? (i := 181) rfl, List.forall_mem_cons.mpr ⟨List.mem_of_getElem? (i := 184) rfl, List.forall_mem_cons.mpr ⟨List.mem_of_getElem? (i := 185) rfl, List.forall_mem_cons.mpr ⟨List.mem_of_getElem? (i := 186) rfl, List.forall_mem_cons.mpr ⟨List.mem_of_getElem? (i := 187) rfl, List.forall_mem_cons.mpr ⟨List.mem_of_getElem? (i := 188) rfl, List.forall_mem_cons.mpr ⟨List.mem_of_getElem? (i := 189) rfl, List.forall_mem_cons.mpr ⟨List.mem_of_getElem? (i := 190) rfl, List.forall_mem_cons.mpr ⟨List.mem_of_getElem? (i := 191) rfl, List.forall_mem_cons.mpr ⟨List.mem_of_getElem? (i := 192) rfl, List.forall_mem_cons.mpr ⟨List.mem_of_getElem? (i := 193) rfl, List.forall_mem_cons.mpr ⟨List.mem_of_getElem? (i := 195) rfl, List.forall_mem_cons.mpr ⟨List.mem_of_getElem? (i := 197) rfl, List.forall_mem_cons.mpr ⟨List.mem_of_getElem? (i := 199) rfl, List.forall_mem_cons.mpr ⟨List.mem_of_getElem? (i := 201) rfl, List.forall_mem_cons.mpr ⟨List.mem_of_getElem? (i := 203) rfl, List.forall_mem_cons.mpr ⟨List.mem_of_getElem? (i := 205) rfl, List.forall_mem_cons.mpr ⟨List.mem_of_getElem? (i := 207) rfl, fun _ h => absurd h List.not_mem_nil⟩⟩⟩⟩⟩⟩⟩⟩⟩⟩⟩⟩⟩⟩⟩⟩⟩⟩⟩⟩⟩⟩⟩⟩⟩⟩⟩⟩⟩⟩⟩⟩⟩⟩⟩⟩⟩⟩⟩⟩
set_option maxRecDepth 100000 in
theorem am_big_in4 : ∀ w ∈ am_big_4, w ∈ lw_tbl := List.forall_mem_cons.mpr ⟨List.mem_of_getElem? (i := 209) rfl, List.forall_mem_cons.mpr ⟨List.mem_of_getElem? (i := 212) rfl, List.forall_mem_cons.mpr ⟨List.mem_of_getElem? (i := 213) rfl, List.forall_mem_cons.mpr ⟨List.mem_of_getElem? (i := 214) rfl, List.forall_mem_cons.mpr ⟨List.mem_of_getElem? (i := 215) rfl, List.forall_mem_cons.mpr ⟨List.mem_of_getElem? (i := 216) rfl, List.forall_mem_cons.mpr ⟨List.mem_of_getElem? (i := 217) rfl, List.forall_mem_cons.mpr ⟨List.mem_of_getElem? (i := 218) rfl, List.forall_mem_cons.mpr ⟨List.mem_of_getElem? (i := 219) rfl, List.forall_mem_cons.mpr ⟨List.mem_of_getElem? (i := 220) rfl, List.forall_mem_cons.mpr ⟨List.mem_of_getElem? (i := 221) rfl, List.forall_mem_cons.mpr ⟨List.mem_of_getElem? (i := 222) rfl, List.forall_mem_cons.mpr ⟨List.mem_of_getElem? (i := 223) rfl, List.forall_mem_cons.mpr ⟨List.mem_of_getElem? (i := 224) rfl, List.forall_mem_cons.mpr ⟨List.mem_of_getElem? (i := 225) rfl, List.forall_mem_cons.mpr ⟨List.mem_of_getElem? (i := 226) rfl, List.forall_mem_cons.mpr ⟨List.mem_of_getElem? (i := 227) rfl, List.forall_mem_cons.mpr ⟨List.mem_of_getElem? (i := 228) rfl, List.forall_mem_cons.mpr ⟨List.mem_of_getElem? (i := 229) rfl, List.forall_mem_cons.mpr ⟨List.mem_of_getElem? (i := 230) rfl, List.forall_mem_cons.mpr ⟨List.mem_of_getElem? (i := 231) rfl, List.forall_mem_cons.mpr ⟨List.mem_of_getElem? (i := 233) rfl, List.forall_mem_cons.mpr ⟨List.mem_of_getElem? (i := 234) rfl, List.forall_mem_cons.mpr ⟨List.mem_of_getElem? (i := 236) rfl, List.forall_mem_cons.mpr ⟨List.mem_of_getElem? (i := 237) rfl, List.forall_mem_cons.mpr ⟨List.mem_of_getElem? (i := 238) rfl, List.forall_mem_cons.mpr ⟨List.mem_of_getElem? (i := 239) rfl, List.forall_mem_cons.mpr ⟨List.mem_of_getElem? (i := 240) rfl, List.forall_mem_cons.mpr ⟨List.mem_of_getElem? (i := 241) rfl, List.forall_mem_cons.mpr ⟨List.mem_of_getElem? (i := 242) rfl, List.forall_mem_cons.mpr ⟨List.mem_of_getElem? (i := 243) rfl, List.forall_mem_cons.mpr ⟨List.mem_of_getElem? (i := 244) rfl, List.forall_mem_cons.mpr ⟨List.mem_of_getElem? (i := 245) rfl, List.forall_mem_cons.mpr ⟨List.mem_of_getElem? (i := 246) rfl, List.forall_mem_cons.mpr ⟨List.mem_of_getElem? (i := 247) rfl, List.forall_mem_cons.mpr ⟨List.mem_of_getElem? (i := 248) rfl, List.forall_mem_cons.mpr ⟨List.mem_of_getElem? (i := 249) rfl, List.forall_mem_cons.mpr ⟨List.mem_of_getElem? (i := 250) rfl, List.forall_mem_cons.mpr ⟨List.mem_of_getElem? (i := 252) rfl, List.forall_mem_cons.mpr ⟨List.mem_of_getElem? (i := 253) rfl, fun _ h => absurd h List.not_mem_nil⟩⟩⟩⟩⟩⟩⟩⟩⟩⟩⟩⟩⟩⟩⟩⟩⟩⟩⟩⟩⟩⟩⟩⟩⟩⟩⟩⟩⟩⟩⟩⟩⟩⟩⟩⟩⟩⟩⟩⟩
set_option maxRecDepth 100000 in
theorem am_big_in5 : ∀ w ∈ am_big_5, w ∈ lw_tbl := List.forall_mem_cons.mpr ⟨List.mem_of_getElem? (i := 254) rfl, List.forall_mem_cons.mpr ⟨List.mem_of_getElem? (i := 255) rfl, List.forall_mem_cons.mpr ⟨List.mem_of_getElem? (i := 263) rfl, List.forall_mem_cons.mpr ⟨List.mem_of_getElem? (i := 264) rfl, List.forall_mem_cons.mpr ⟨List.mem_of_getElem? (i := 265) rfl, List.forall_mem_cons.mpr ⟨List.mem_of_getElem? (i := 266) rfl, List.forall_mem_cons.mpr ⟨List.mem_of_getElem? (i := 267) rfl, List.forall_mem_cons.mpr ⟨List.mem_of_getElem? (i := 268) rfl, List.forall_mem_cons.mpr ⟨List.mem_of_getElem? (i := 269) rfl, List.forall_mem_cons.mpr ⟨List.mem_of_getElem? (i := 270) rfl, List.forall_mem_cons.mpr ⟨List.mem_of_getElem? (i := 271) rfl, List.forall_mem_cons.mpr ⟨List.mem_of_getElem? (i := 272) rfl, List.forall_mem_cons.mpr ⟨List.mem_of_getElem? (i := 273) rfl, List.forall_mem_cons.mpr ⟨List.mem_of_getElem? (i := 274) rfl, List.forall_mem_cons.mpr ⟨List.mem_of_getElem? (i := 275) rfl, List.forall_mem_cons.mpr ⟨List.mem_of_getElem? (i := 277) rfl, List.forall_mem_cons.mpr ⟨List.mem_of_getElem? (i := 278) rfl, List.forall_mem_cons.mpr ⟨List.mem_of_getElem? (i := 279) rfl, List.forall_mem_cons.mpr ⟨List.mem_of_getElem? (i := 280) rfl, List.forall_mem_cons.mpr ⟨List.mem_of_getElem? (i := 282) rfl, List.forall_mem_cons.mpr ⟨List.mem_of_getElem? (i := 284) rfl, List.forall_mem_cons.mpr ⟨List.mem_of_getElem? (i := 285) rfl, List.forall_mem_cons.mpr ⟨List.mem_of_getElem? (i := 287) rfl, List.forall_mem_cons.mpr ⟨List.mem_of_getElem? (i := 288) rfl, List.forall_mem_cons.mpr ⟨List.mem_of_getElem? (i := 290) rfl, List.forall_mem_cons.mpr ⟨List.mem_of_getElem? (i := 292) rfl, List.forall_mem_cons.mpr ⟨List.mem_of_getElem? (i := 293) rfl, List.forall_mem_cons.mpr ⟨List.mem_of_getElem? (i := 296) rfl, List.forall_mem_cons.mpr ⟨List.mem_of_getElem? (i := 297) rfl, List.forall_mem_cons.mpr ⟨List.mem_of_getElem? (i := 298) rfl, List.forall_mem_cons.mpr ⟨List.mem_of_getElem? (i := 299) rfl, List.forall_mem_cons.mpr ⟨List.mem_of_getElem? (i := 300) rfl, List.forall_mem_cons.mpr ⟨List.mem_of_getElem? (i := 301) rfl, List.forall_mem_cons.mpr ⟨List.mem_of_getElem? (i := 302) rfl, List.forall_mem_cons.mpr ⟨List.mem_of_getElem? (i := 303) rfl, List.forall_mem_cons.mpr ⟨List.mem_of_getElem? (i := 304) rfl, List.forall_mem_cons.mpr ⟨List.mem_of_getElem? (i := 305) rfl, List.forall_mem_cons.mpr ⟨List.mem_of_getElem? (i := 306) rfl, List.forall_mem_cons.mpr ⟨List.mem_of_getElem? (i := 307) rfl, List.forall_mem_cons.mpr ⟨List.mem_of_getElem? (i := 309) rfl, fun _ h => absurd h List.not_mem_nil⟩⟩⟩⟩⟩⟩⟩⟩⟩⟩⟩⟩⟩⟩⟩⟩⟩⟩⟩⟩⟩⟩⟩⟩⟩⟩⟩⟩⟩⟩⟩⟩⟩⟩⟩⟩⟩⟩⟩⟩
set_option maxRecDepth 100000 in
theorem am_big_in6 : ∀ w ∈ am_big_6, w ∈ lw_tbl := List.forall_mem_cons.mpr ⟨List.mem_of_getElem? (i := 310) rfl, List.forall_mem_cons.mpr ⟨List.mem_of_getElem? (i := 311) rfl, List.forall_mem_cons.mpr ⟨List.mem_of_getElem? (i := 312) rfl, List.forall_mem_cons.mpr ⟨List.mem_of_getElem? (i := 317) rfl, List.forall_mem_cons.mpr ⟨List.mem_of_getElem? (i := 321) rfl, List.forall_mem_cons.mpr ⟨List.mem_of_getElem? (i := 322) rfl, List.forall_mem_cons.mpr ⟨List.mem_of_getElem? (i := 324) rfl, List.forall_mem_cons.mpr ⟨List.mem_of_getElem? (i := 325) rfl, List.forall_mem_cons.mpr ⟨List.mem_of_getElem? (i := 326) rfl, List.forall_mem_cons.mpr ⟨List.mem_of_getElem? (i := 327) rfl, List.forall_mem_cons.mpr ⟨List.mem_of_getElem? (i := 329) rfl, List.forall_mem_cons.mpr ⟨List.mem_of_getElem? (i := 330) rfl, List.forall_mem_cons.mpr ⟨List.mem_of_getElem? (i := 331) rfl, List.forall_mem_cons.mpr ⟨List.mem_of_getElem? (i := 332) rfl, List.forall_mem_cons.mpr ⟨List.mem_of_getElem? (i := 333) rfl, List.forall_mem_cons.mpr ⟨List.mem_of_getElem? (i := 334) rfl, List.forall_mem_cons.mpr ⟨List.mem_of_getElem? (i := 336) rfl, List.forall_mem_cons.mpr ⟨List.mem_of_getElem? (i := 337) rfl, List.forall_mem_cons.mpr ⟨List.mem_of_getElem? (i := 338) rfl, List.forall_mem_cons.mpr ⟨List.mem_of_getElem? (i := 339) rfl, List.forall_mem_cons.mpr ⟨List.mem_of_getElem? (i := 340) rfl, List.forall_mem_cons.mpr ⟨List.mem_of_getElem? (i := 342) rfl, List.forall_mem_cons.mpr ⟨List.mem_of_getElem? (i := 343) rfl, List.forall_mem_cons.mpr ⟨List.mem_of_getElem? (i := 344) rfl, List.forall_mem_cons.mpr ⟨List.mem_of_getElem? (i := 345) rfl, List.forall_mem_cons.mpr ⟨List.mem_of_getElem? (i := 346) rfl, List.forall_mem_cons.mpr ⟨List.mem_of_getElem? (i := 348) rfl, List.forall_mem_cons.mpr ⟨List.mem_of_getElem? (i := 349) rfl, List.forall_mem_cons.mpr ⟨List.mem_of_getElem? (i := 351) rfl, List.forall_mem_cons.mpr ⟨List.mem_of_getElem? (i := 352) rfl, List.forall_mem_cons.mpr ⟨List.mem_of_getElem? (i := 353) rfl, List.forall_mem_cons.mpr ⟨List.mem_of_getElem? (i := 354) rfl, List.forall_mem_cons.mpr ⟨List.mem_of_getElem? (i := 355) rfl, List.forall_mem_cons.mpr ⟨List.mem_of_getElem? (i := 356) rfl, List.forall_mem_cons.mpr ⟨List.mem_of_getElem? (i := 357) rfl, List.forall_mem_cons.mpr ⟨List.mem_of_getElem? (i := 358) rfl, List.forall_mem_cons.mpr ⟨List.mem_of_getElem? (i := 359) rfl, List.forall_mem_cons.mpr ⟨List.mem_of_getElem? (i := 360) rfl, List.forall_mem_cons.mpr ⟨List.mem_of_getElem? (i := 361) rfl, List.forall_mem_cons.mpr ⟨List.mem_of_getElem? (i := 362) rfl, fun _ h => absurd h List.not_mem_nil⟩⟩⟩⟩⟩⟩⟩⟩⟩⟩⟩⟩⟩⟩⟩⟩⟩⟩⟩⟩⟩⟩⟩⟩⟩⟩⟩⟩⟩⟩⟩⟩⟩⟩⟩⟩⟩⟩⟩⟩
set_option maxRecDepth 100000 in
theorem am_big_in7 : ∀ w ∈ am_big_7, w ∈ lw_tbl := List.forall_mem_cons.mpr ⟨List.mem_of_getElem? (i := 363) rfl, List.forall_mem_cons.mpr ⟨List.mem_of_getElem? (i := 364) rfl, List.forall_mem_cons.mpr ⟨List.mem_of_getElem? (i := 365) rfl, List.forall_mem_cons.mpr ⟨List.mem_of_getElem? (i := 366) rfl, List.forall_mem_cons.mpr ⟨List.mem_of_getElem? (i := 367) rfl, List.forall_mem_cons.mpr ⟨List.mem_of_getElem? (i := 368) rfl, List.forall_mem_cons.mpr ⟨List.mem_of_getElem? (i := 369) rfl, List.forall_mem_cons.mpr ⟨List.mem_of_getElem? (i := 370) rfl, List.forall_mem_cons.mpr ⟨List.mem_of_getElem? (i := 371) rfl, List.forall_mem_cons.mpr ⟨List.mem_of_getElem? (i := 373) rfl, List.forall_mem_cons.mpr ⟨List.mem_of_getElem? (i := 374) rfl, List.forall_mem_cons.mpr ⟨List.mem_of_getElem? (i := 375) rfl, List.forall_mem_cons.mpr ⟨List.mem_of_getElem? (i := 376) rfl, List.forall_mem_cons.mpr ⟨List.mem_of_getElem? (i := 377) rfl, List.forall_mem_cons.mpr ⟨List.mem_of_getElem? (i := 378) rfl, List.forall_mem_cons.mpr ⟨List.mem_of_getElem? (i := 379) rfl, List.forall_mem_cons.mpr ⟨List.mem_of_getElem? (i := 380) rfl, List.forall_mem_cons.mpr ⟨List.mem_of_getElem? (i := 381) rfl, List.forall_mem_cons.mpr ⟨List.mem_of_getElem? (i := 382) rfl, List.forall_mem_cons.mpr ⟨List.mem_of_getElem? (i := 383) rfl, List.forall_mem_cons.mpr ⟨List.mem_of_getElem? (i := 384) rfl, List.forall_mem_cons.mpr ⟨List.mem_of_getElem? (i := 385) rfl, List.forall_mem_cons.mpr ⟨List.mem_of_getElem? (i := 386) rfl, List.forall_mem_cons.mpr ⟨List.mem_of_getElem? (i := 387) rfl, List.forall_mem_cons.mpr ⟨List.mem_of_getElem? (i := 388) rfl, List.forall_mem_cons.mpr ⟨List.mem_of_getElem? (i := 389) rfl, List.forall_mem_cons.mpr ⟨List.mem_of_getElem? (i := 391) rfl, List.forall_mem_cons.mpr ⟨List.mem_of_getElem? (i := 392) rfl, List.forall_mem_cons.mpr ⟨List.mem_of_getElem? (i := 393) rfl, List.forall_mem_cons.mpr ⟨List.mem_of_getElem? (i := 394) rfl, List.forall_mem_cons.mpr ⟨List.mem_of_getElem? (i := 395) rfl, List.forall_mem_cons.mpr ⟨List.mem_of_getElem? (i := 396) rfl, List.forall_mem_cons.mpr ⟨List.mem_of_getElem? (i := 398) rfl, List.forall_mem_cons.mpr ⟨List.mem_of_getElem? (i := 399) rfl, List.forall_mem_cons.mpr ⟨List.mem_of_getElem? (i := 400) rfl, List.forall_mem_cons.mpr ⟨List.mem_of_getElem? (i := 401) rfl, List.forall_mem_cons.mpr ⟨List.mem_of_getElem? (i := 402) rfl, List.forall_mem_cons.mpr ⟨List.mem_of_getElem? (i := 405) rfl, List.forall_mem_cons.mpr ⟨List.mem_of_getElem? (i := 406) rfl, List.forall_mem_cons.mpr ⟨List.mem_of_getElem? (i := 407) rfl, fun _ h => absurd h List.not_mem_nil⟩⟩⟩⟩⟩⟩⟩⟩⟩⟩⟩⟩⟩⟩⟩⟩⟩⟩⟩⟩⟩⟩⟩⟩⟩⟩⟩⟩⟩⟩⟩⟩⟩⟩⟩⟩⟩⟩⟩⟩
set_option maxRecDepth 100000 in
theorem am_big_in8 : ∀ w ∈ am_big_8, w ∈ lw_tbl := List.forall_mem_cons.mpr ⟨List.mem_of_getElem? (i := 408) rfl, List.forall_mem_cons.mpr ⟨List.mem_of_getElem? (i := 411) rfl, List.forall_mem_cons.mpr ⟨List.mem_of_getElem? (i := 412) rfl, List.forall_mem_cons.mpr ⟨List.mem_of_getElem? (i := 413) rfl, List.forall_mem_cons.mpr ⟨List.mem_of_getElem? (i := 414) rfl, List.forall_mem_cons.mpr ⟨List.mem_of_getElem? (i := 415) rfl, List.forall_mem_cons.mpr ⟨List.mem_of_getElem? (i := 416) rfl, List.forall_mem_cons.mpr ⟨List.mem_of_getElem? (i := 418) rfl, List.forall_mem_cons.mpr ⟨List.mem_of_getElem? (i := 419) rfl, List.forall_mem_cons.mpr ⟨List.mem_of_getElem? (i := 420) rfl, List.forall_mem_cons.mpr ⟨List.mem_of_getElem? (i := 421) rfl, List.forall_mem_cons.mpr ⟨List.mem_of_getElem? (i := 422) rfl, List.forall_mem_cons.mpr ⟨List.mem_of_getElem? (i := 424) rfl, List.forall_mem_cons.mpr ⟨List.mem_of_getElem? (i := 425) rfl, List.forall_mem_cons.mpr ⟨List.mem_of_getElem? (i := 427) rfl, List.forall_mem_cons.mpr ⟨List.mem_of_getElem? (i := 428) rfl, List.forall_mem_cons.mpr ⟨List.mem_of_getElem? (i := 429) rfl, List.forall_mem_cons.mpr ⟨List.mem_of_getElem? (i := 430) rfl, List.forall_mem_cons.mpr ⟨List.mem_of_getElem? (i := 431) rfl, List.forall_mem_cons.mpr ⟨List.mem_of_getElem? (i := 433) rfl, List.forall_mem_cons.mpr ⟨List.mem_of_getElem? (i := 434) rfl, List.forall_mem_cons.mpr ⟨List.mem_of_getElem? (i := 435) rfl, List.forall_mem_cons.mpr ⟨List.mem_of_getElem? (i := 436) rfl, List.forall_mem_cons.mpr ⟨List.mem_of_getElem? (i := 437) rfl, List.forall_mem_cons.mpr ⟨List.mem_of_getElem? (i := 438) rfl, List.forall_mem_cons.mpr ⟨List.mem_of_getElem? (i := 439) rfl, List.forall_mem_cons.mpr ⟨List.mem_of_getElem? (i := 440) rfl, List.forall_mem_cons.mpr ⟨List.mem_of_getElem? (i := 441) rfl, List.forall_mem_cons.mpr ⟨List.mem_of_getElem? (i := 442) rfl, List.forall_mem_cons.mpr ⟨List.mem_of_getElem? (i := 443) rfl, List.forall_mem_cons.mpr ⟨List.mem_of_getElem? (i := 444) rfl, List.forall_mem_cons.mpr ⟨List.mem_of_getElem? (i := 445) rfl, List.forall_mem_cons.mpr ⟨List.mem_of_getElem? (i := 446) rfl, List.forall_mem_cons.mpr ⟨List.mem_of_getElem? (i := 447) rfl, List.forall_mem_cons.mpr ⟨List.mem_of_getElem? (i := 448) rfl, List.forall_mem_cons.mpr ⟨List.mem_of_getElem? (i := 449) rfl, List.forall_mem_cons.mpr ⟨List.mem_of_getElem? (i := 450) rfl, List.forall_mem_cons.mpr ⟨List.mem_of_getElem? (i := 451) rfl, List.forall_mem_cons.mpr ⟨List.mem_of_getElem? (i := 452) rfl, List.forall_mem_cons.mpr ⟨List.mem_of_getElem? (i := 453) rfl, fun _ h => absurd h List.not_mem_nil⟩⟩⟩⟩⟩⟩⟩⟩⟩⟩⟩⟩⟩⟩⟩⟩⟩⟩⟩⟩⟩⟩⟩⟩⟩⟩⟩⟩⟩⟩⟩⟩⟩⟩⟩⟩⟩⟩⟩⟩
set_option maxRecDepth 100000 in
theorem am_big_in9 : ∀ w ∈ am_big_9, w ∈ lw_tbl := List.forall_mem_cons.mpr ⟨List.mem_of_getElem? (i := 454) rfl, List.forall_mem_cons.mpr ⟨List.mem_of_getElem? (i := 455) rfl, List.forall_mem_cons.mpr ⟨List.mem_of_getElem? (i := 456) rfl, List.forall_mem_cons.mpr ⟨List.mem_of_getElem? (i := 457) rfl, List.forall_mem_cons.mpr ⟨List.mem_of_getElem? (i := 458) rfl, List.forall_mem_cons.mpr ⟨List.mem_of_getElem? (i := 459) rfl, List.forall_mem_cons.mpr ⟨List.mem_of_getElem? (i := 460) rfl, List.forall_mem_cons.mpr ⟨List.mem_of_getElem? (i := 461) rfl, List.forall_mem_cons.mpr ⟨List.mem_of_getElem? (i := 462) rfl, List.forall_mem_cons.mpr ⟨List.mem_of_getElem? (i := 463) rfl, List.forall_mem_cons.mpr ⟨List.mem_of_getElem? (i := 464) rfl, List.forall_mem_cons.mpr ⟨List.mem_of_getElem? (i := 465) rfl, List.forall_mem_cons.mpr ⟨List.mem_of_getElem? (i := 466) rfl, List.forall_mem_cons.mpr ⟨List.mem_of_getElem? (i := 467) rfl, List.forall_mem_cons.mpr ⟨List.mem_of_getElem? (i := 468) rfl, List.forall_mem_cons.mpr ⟨List.mem_of_getElem? (i := 469) rfl, List.forall_mem_cons.mpr ⟨List.mem_of_getElem? (i := 470) rfl, List.forall_mem_cons.mpr ⟨List.mem_of_getElem? (i := 471) rfl, List.forall_mem_cons.mpr ⟨List.mem_of_getElem? (i := 472) rfl, List.forall_mem_cons.mpr ⟨List.mem_of_getElem? (i := 473) rfl, List.forall_mem_cons.mpr ⟨List.mem_of_getElem? (i := 475) rfl, List.forall_mem_cons.mpr ⟨List.mem_of_getElem? (i := 476) rfl, List.forall_mem_cons.mpr ⟨List.mem_of_getElem? (i := 477) rfl, List.forall_mem_cons.mpr ⟨List.mem_of_getElem? (i := 478) rfl, List.forall_mem_cons.mpr ⟨List.mem_of_getElem? (i := 479) rfl, List.forall_mem_cons.mpr ⟨List.mem_of_getElem? (i := 480) rfl, List.forall_mem_cons.mpr ⟨List.mem_of_getElem? (i := 482) rfl, List.forall_mem_cons.mpr ⟨List.mem_of_getElem? (i := 483) rfl, List.forall_mem_cons.mpr ⟨List.mem_of_getElem? (i := 485) rfl, List.forall_mem_cons.mpr ⟨List.mem_of_getElem? (i := 486) rfl, List.forall_mem_cons.mpr ⟨List.mem_of_getElem? (i := 487) rfl, List.forall_mem_cons.mpr ⟨List.mem_of_getElem? (i := 488) rfl, List.forall_mem_cons.mpr ⟨List.mem_of_getElem? (i := 489) rfl, List.forall_mem_cons.mpr ⟨List.mem_of_getElem? (i := 490) rfl, List.forall_mem_cons.mpr ⟨List.mem_of_getElem? (i := 491) rfl, List.forall_mem_cons.mpr ⟨List.mem_of_getElem? (i := 492) rfl, List.forall_mem_cons.mpr ⟨List.mem_of_getElem? (i := 493) rfl, List.forall_mem_cons.mpr ⟨List.mem_of_getElem? (i := 494) rfl, List.forall_mem_cons.mpr ⟨List.mem_of_getElem? (i := 496) rfl, List.forall_mem_cons.mpr ⟨List.mem_of_getElem? (i := 497) rfl, fun _ h => absurd h List.not_mem_nil⟩⟩⟩⟩⟩⟩⟩⟩⟩⟩⟩⟩⟩⟩⟩⟩⟩⟩⟩⟩⟩⟩⟩⟩⟩⟩⟩⟩⟩⟩⟩⟩⟩⟩⟩⟩⟩⟩⟩⟩
set_option maxRecDepth 100000 in
theorem am_big_in10 : ∀ w ∈ am_big_10, w ∈ lw_tbl := List.forall_mem_cons.mpr ⟨List.mem_of_getElem? (i := 498) rfl, List.forall_mem_cons.mpr ⟨List.mem_of_getElem? (i := 499) rfl, List.forall_mem_cons.mpr ⟨List.mem_of_getElem? (i := 500) rfl, List.forall_mem_cons.mpr ⟨List.mem_of_getElem? (i := 501) rfl, List.forall_mem_cons.mpr ⟨List.mem_of_getElem? (i := 502) rfl, List.forall_mem_cons.mpr ⟨List.mem_of_getElem? (i := 503) rfl, List.forall_mem_cons.mpr ⟨List.mem_of_getElem? (i := 505) rfl, List.forall_mem_cons.mpr ⟨List.mem_of_getElem? (i := 506) rfl, List.forall_mem_cons.mpr ⟨List.mem_of_getElem? (i := 507) rfl, List.forall_mem_cons.mpr ⟨List.mem_of_getElem? (i := 508) rfl, List.forall_mem_cons.mpr ⟨List.mem_of_getElem? (i := 509) rfl, List.forall_mem_cons.mpr ⟨List.mem_of_getElem? (i := 510) rfl, List.forall_mem_cons.mpr ⟨List.mem_of_getElem? (i := 511) rfl, List.forall_mem_cons.mpr ⟨List.mem_of_getElem? (i := 513) rfl, List.forall_mem_cons.mpr ⟨List.mem_of_getElem? (i := 514) rfl, List.forall_mem_cons.mpr ⟨List.mem_of_getElem? (i := 515) rfl, List.forall_mem_cons.mpr ⟨List.mem_of_getElem? (i := 517) rfl, List.forall_mem_cons.mpr ⟨List.mem_of_getElem? (i := 518) rfl, List.forall_mem_cons.mpr ⟨List.mem_of_getElem? (i := 519) rfl, List.forall_mem_cons.mpr ⟨List.mem_of_getElem? (i := 520) rfl, List.forall_mem_cons.mpr ⟨List.mem_of_getElem? (i := 521) rfl, List.forall_mem_cons.mpr ⟨List.mem_of_getElem? (i := 522) rfl, List.forall_mem_cons.mpr ⟨List.mem_of_getElem? (i := 523) rfl, List.forall_mem_cons.mpr ⟨List.mem_of_getElem? (i := 525) rfl, List.forall_mem_cons.mpr ⟨List.mem_of_getElem? (i := 527) rfl, List.forall_mem_cons.mpr ⟨List.mem_of_getElem? (i := 528) rfl, List.forall_mem_cons.mpr ⟨List.mem_of_getElem? (i := 529) rfl, List.forall_mem_cons.mpr ⟨List.mem_of_getElem? (i := 531) rfl, List.forall_mem_cons.mpr ⟨List.mem_of_getElem? (i := 532) rfl, List.forall_mem_cons.mpr ⟨List.mem_of_getElem? (i := 533) rfl, List.forall_mem_cons.mpr ⟨List.mem_of_getElem? (i := 534) rfl, List.forall_mem_cons.mpr ⟨List.mem_of_getElem? (i := 535) rfl, List.forall_mem_cons.mpr ⟨List.mem_of_getElem? (i := 536) rfl, List.forall_mem_cons.mpr ⟨List.mem_of_getElem? (i := 537) rfl, List.forall_mem_cons.mpr ⟨List.mem_of_getElem? (i := 538) rfl, List.forall_mem_cons.mpr ⟨List.mem_of_getElem? (i := 539) rfl, List.forall_mem_cons.mpr ⟨List.mem_of_getElem? (i := 540) rfl, List.forall_mem_cons.mpr ⟨List.mem_of_getElem? (i := 541) rfl, List.forall_mem_cons.mpr ⟨List.mem_of_getElem? (i := 543) rfl, List.forall_mem_cons.mpr ⟨List.mem_of_getElem? (i := 544) rfl, fun _ h => absurd h List.not_mem_nil⟩⟩⟩⟩⟩⟩⟩⟩⟩⟩⟩⟩⟩⟩⟩⟩⟩⟩⟩⟩⟩⟩⟩⟩⟩⟩⟩⟩⟩⟩⟩⟩⟩⟩⟩⟩⟩⟩⟩⟩
set_option maxRecDepth 100000 in
theorem am_big_in11 : ∀ w ∈ am_big_11, w ∈ lw_tbl := List.forall_mem_cons.mpr ⟨List.mem_of_getElem? (i := 547) rfl, List.forall_mem_cons.mpr ⟨List.mem_of_getElem? (i := 548) rfl, List.forall_mem_cons.mpr ⟨List.mem_of_getElem? (i := 549) rfl, List.forall_mem_cons.mpr ⟨List.mem_of_getElem? (i := 550) rfl, List.forall_mem_cons.mpr ⟨List.mem_of_getElem? (i := 553) rfl, List.forall_mem_cons.mpr ⟨List.mem_of_getElem? (i := 554) rfl, List.forall_mem_cons.mpr ⟨List.mem_of_getElem? (i := 555) rfl, List.forall_mem_cons.mpr ⟨List.mem_of_getElem? (i := 556) rfl, List.forall_mem_cons.mpr ⟨List.mem_of_getElem? (i := 557) rfl, List.forall_mem_cons.mpr ⟨List.mem_of_getElem? (i := 558) rfl, List.forall_mem_cons.mpr ⟨List.mem_of_getElem? (i := 559) rfl, List.forall_mem_cons.mpr ⟨List.mem_of_getElem? (i := 560) rfl, List.forall_mem_cons.mpr ⟨List.mem_of_getElem? (i := 561) rfl, List.forall_mem_cons.mpr ⟨List.mem_of_getElem? (i := 562) rfl, List.forall_mem_cons.mpr ⟨List.mem_of_getElem? (i := 563) rfl, List.forall_mem_cons.mpr ⟨List.mem_of_getElem? (i := 564) rfl, List.forall_mem_cons.mpr ⟨List.mem_of_getElem? (i := 565) rfl, List.forall_mem_cons.mpr ⟨List.mem_of_getElem? (i := 566) rfl, List.forall_mem_cons.mpr ⟨List.mem_of_getElem? (i := 567) rfl, List.forall_mem_cons.mpr ⟨List.mem_of_getElem? (i := 568) rfl, List.forall_mem_cons.mpr ⟨List.mem_of_getElem? (i := 570) rfl, List.forall_mem_cons.mpr ⟨List.mem_of_getElem? (i := 571) rfl, List.forall_mem_cons.mpr ⟨List.mem_of_getElem? (i := 572) rfl, List.forall_mem_cons.mpr ⟨List.mem_of_getElem? (i := 573) rfl, List.forall_mem_cons.mpr ⟨List.mem_of_getElem? (i := 575) rfl, List.forall_mem_cons.mpr ⟨List.mem_of_getElem? (i := 576) rfl, List.forall_mem_cons.mpr ⟨List.mem_of_getElem? (i := 577) rfl, List.forall_mem_cons.mpr ⟨List.mem_of_getElem? (i := 578) rfl, List.forall_mem_cons.mpr ⟨List.mem_of_getElem? (i := 579) rfl, List.forall_mem_cons.mpr ⟨List.mem_of_getElem? (i := 580) rfl, List.forall_mem_cons.mpr ⟨List.mem_of_getElem? (i := 582) rfl, List.forall_mem_cons.mpr ⟨List.mem_of_getElem? (i := 583) rfl, List.forall_mem_cons.mpr ⟨List.mem_of_getElem? (i := 0) rfl, List.forall_mem_cons.mpr ⟨List.mem_of_getElem? (i := 2) rfl, List.forall_mem_cons.mpr ⟨List.mem_of_getElem? (i := 3) rfl, List.forall_mem_cons.mpr ⟨List.mem_of_getElem? (i := 4) rfl, List.forall_mem_cons.mpr ⟨List.mem_of_getElem? (i := 5) rfl, List.forall_mem_cons.mpr ⟨List.mem_of_getElem? (i := 6) rfl, List.forall_mem_cons.mpr ⟨List.mem_of_getElem? (i := 7) rfl, List.forall_mem_cons.mpr ⟨List.mem_of_getElem? (i := 8) rfl, fun _ h => absurd h List.not_mem_nil⟩⟩⟩⟩⟩⟩⟩⟩⟩⟩⟩⟩⟩⟩⟩⟩⟩⟩⟩⟩⟩⟩⟩⟩⟩⟩⟩⟩⟩⟩⟩⟩⟩⟩⟩⟩⟩⟩⟩⟩
set_option maxRecDepth 100000 in
theorem am_big_in12 : ∀ w ∈ am_big_12, w ∈ lw_tbl := List.forall_mem_cons.mpr ⟨List.mem_of_getElem? (i := 294) rfl, List.forall_mem_cons.mpr ⟨List.mem_of_getElem? (i := 417) rfl, fun _ h => absurd h List.not_mem_nil⟩⟩
theorem am_in_app {a b : List Jvm.Cond} (ha : ∀ w ∈ a, w ∈ lw_tbl) (hb : ∀ w ∈ b, w ∈ lw_tbl) : ∀ w ∈ a ++ b, w ∈ lw_tbl := fun w h => (List.mem_append.mp h).elim (ha w) (hb w)
theorem am_big_in : ∀ w ∈ am_big, w ∈ lw_tbl := (am_in_app am_big_in0 (am_in_app am_big_in1 (am_in_app am_big_in2 (am_in_app am_big_in3 (am_in_app am_big_in4 (am_in_app am_big_in5 (am_in_app am_big_in6 (am_in_app am_big_in7 (am_in_app am_big_in8 (am_in_app am_big_in9 (am_in_app am_big_in10 (am_in_app am_big_in11 am_big_in12))))))))))))
set_option maxRecDepth 100000 in
theorem am_cl_ok0 : am_all2 (am_okCb am_big) am_cl [[152, 153, 154, 155, 156, 157, 158, 159, 160], [54, 55, 56, 57, 58, 59, 60, 61], [82, 83, 84, 85, 86, 87, 88], [104, 105, 106, 107, 108], [135, 136, 137, 138, 139, 140, 141, 142]] = true := by decide +kernel
theorem am_cl_ok : ∀ q ∈ am_cl, am_okC am_big q := fun q hq => (am_all2_of am_cl_ok0 q hq).elim fun _ h => am_okC_of h
def m_MG_init : am_M := (⟨"TraceAligner$MarkingGraph", "<init>", "(LTraceAligner$Net;)V"⟩, prog_2_method_1_code, 2, none)
def m_MG_explore : am_M := (⟨"TraceAligner$MarkingGraph", "explore", "()V"⟩, prog_2_method_2_code, 2, none)
def m_MG_followAll : am_M := (⟨"TraceAligner$MarkingGraph", "followAll", "(I)Z"⟩, prog_2_method_3_code, 5, (some .boolean))
def m_MG_numberOf : am_M := (⟨"TraceAligner$MarkingGraph", "numberOf", "(I)I"⟩, prog_2_method_4_code, 3, (some .int))
def m_MG_numberOrAppend : am_M := (⟨"TraceAligner$MarkingGraph", "numberOrAppend", "(I)I"⟩, prog_2_method_5_code, 3, (some .int))
def m_MG_follower : am_M := (⟨"TraceAligner$MarkingGraph", "follower", "(II)I"⟩, prog_2_method_6_code, 3, (some .int))
def m_MG_relax : am_M := (⟨"TraceAligner$MarkingGraph", "relax", "([I[I)V"⟩, prog_2_method_7_code, 4, none)
def m_MG_relaxOnce : am_M := (⟨"TraceAligner$MarkingGraph", "relaxOnce", "([I[I)Z"⟩, prog_2_method_8_code, 7, (some .boolean))
def m_NT_init : am_M := (⟨"TraceAligner$Net", "<init>", "()V"⟩, prog_3_method_1_code, 1, none)
def m_NT_appendPlace : am_M := (⟨"TraceAligner$Net", "appendPlace", "()I"⟩, prog_3_method_2_code, 1, (some .int))
def m_NT_appendTransition : am_M := (⟨"TraceAligner$Net", "appendTransition", "(I)I"⟩, prog_3_method_3_code, 2, (some .int))
def m_NT_codeOf : am_M := (⟨"TraceAligner$Net", "codeOf", "([I)I"⟩, prog_3_method_4_code, 4, (some .int))
def m_NT_codeBehind : am_M := (⟨"TraceAligner$Net", "codeBehind", "(II)I"⟩, prog_3_method_5_code, 8, (some .int))
def m_PF_init : am_M := (⟨"TraceAligner$PathFinder", "<init>", "(LTraceAligner$Net;LTraceAligner$MarkingGraph;[I)V"⟩, prog_4_method_1_code, 4, none)
def m_PF_stepsToLast : am_M := (⟨"TraceAligner$PathFinder", "stepsToLast", "(I)I"⟩, prog_4_method_2_code, 2, (some .int))
def m_PF_align : am_M := (⟨"TraceAligner$PathFinder", "align", "(LTraceAligner$Trace;)V"⟩, prog_4_method_3_code, 3, none)
def m_PF_weighAll : am_M := (⟨"TraceAligner$PathFinder", "weighAll", "(LTraceAligner$Trace;)V"⟩, prog_4_method_4_code, 3, none)
def m_PF_weighEnd : am_M := (⟨"TraceAligner$PathFinder", "weighEnd", "([I)V"⟩, prog_4_method_5_code, 2, none)
def m_PF_weighEvent : am_M := (⟨"TraceAligner$PathFinder", "weighEvent", "([I[II)V"⟩, prog_4_method_6_code, 8, none)
def m_PF_traceWeight : am_M := (⟨"TraceAligner$PathFinder", "traceWeight", "(I)I"⟩, prog_4_method_7_code, 2, (some .int))
def m_PF_walk : am_M := (⟨"TraceAligner$PathFinder", "walk", "(LTraceAligner$Trace;)V"⟩, prog_4_method_8_code, 7, none)
def m_PF_bestMove : am_M := (⟨"TraceAligner$PathFinder", "bestMove", "(LTraceAligner$Trace;II)I"⟩, prog_4_method_9_code, 9, (some .int))
def m_PF_bestModelTransition : am_M := (⟨"TraceAligner$PathFinder", "bestModelTransition", "([II)I"⟩, prog_4_method_10_code, 5, (some .int))
def m_TR_init : am_M := (⟨"TraceAligner$Trace", "<init>", "()V"⟩, prog_5_method_1_code, 1, none)
def m_TR_take : am_M := (⟨"TraceAligner$Trace", "take", "([III)V"⟩, prog_5_method_2_code, 4, none)
def m_TR_setNoAlignment : am_M := (⟨"TraceAligner$Trace", "setNoAlignment", "()V"⟩, prog_5_method_4_code, 1, none)
def m_TR_makeRoom : am_M := (⟨"TraceAligner$Trace", "makeRoom", "(I)V"⟩, prog_5_method_5_code, 2, none)
def m_TA_init : am_M := (⟨"TraceAligner", "<init>", "()V"⟩, prog_1_method_1_code, 2, none)
def m_TA_addPlace : am_M := (⟨"TraceAligner", "addPlace", "()I"⟩, prog_1_method_2_code, 1, (some .int))
def m_TA_addTransition : am_M := (⟨"TraceAligner", "addTransition", "(I)I"⟩, prog_1_method_3_code, 2, (some .int))
def m_TA_link : am_M := (⟨"TraceAligner", "link", "(IIZZ)Z"⟩, prog_1_method_4_code, 7, (some .boolean))
def m_TA_setTokens : am_M := (⟨"TraceAligner", "setTokens", "(IIZ)I"⟩, prog_1_method_5_code, 6, (some .int))
def m_TA_count : am_M := (⟨"TraceAligner", "count", "(I)I"⟩, prog_1_method_6_code, 2, (some .int))
def m_TA_markings : am_M := (⟨"TraceAligner", "markings", "()I"⟩, prog_1_method_8_code, 1, (some .int))
def m_TA_enabled : am_M := (⟨"TraceAligner", "enabled", "(I)I"⟩, prog_1_method_10_code, 2, (some .int))
def m_TA_next : am_M := (⟨"TraceAligner", "next", "(II)I"⟩, prog_1_method_11_code, 3, (some .int))
def m_TA_last : am_M := (⟨"TraceAligner", "last", "()I"⟩, prog_1_method_12_code, 1, (some .int))
def m_TA_away : am_M := (⟨"TraceAligner", "away", "(I)I"⟩, prog_1_method_15_code, 2, (some .int))
def m_TA_event : am_M := (⟨"TraceAligner", "event", "(I)I"⟩, prog_1_method_16_code, 2, (some .int))
def m_TA_store : am_M := (⟨"TraceAligner", "store", "(I)I"⟩, prog_1_method_17_code, 2, (some .int))
def m_TA_length : am_M := (⟨"TraceAligner", "length", "(I)I"⟩, prog_1_method_19_code, 2, (some .int))
def m_TA_setCost : am_M := (⟨"TraceAligner", "setCost", "(II)I"⟩, prog_1_method_21_code, 4, (some .int))
def m_TA_cost : am_M := (⟨"TraceAligner", "cost", "(I)I"⟩, prog_1_method_22_code, 2, (some .int))
def m_TA_moves : am_M := (⟨"TraceAligner", "moves", "(I)I"⟩, prog_1_method_23_code, 2, (some .int))
def m_TA_move : am_M := (⟨"TraceAligner", "move", "(III)I"⟩, prog_1_method_24_code, 6, (some .int))
def m_TA_worst : am_M := (⟨"TraceAligner", "worst", "(I)I"⟩, prog_1_method_25_code, 2, (some .int))
def m_TA_forgetMarkings : am_M := (⟨"TraceAligner", "forgetMarkings", "()V"⟩, prog_1_method_33_code, 1, none)
def m_TA_forgetAlignments : am_M := (⟨"TraceAligner", "forgetAlignments", "()V"⟩, prog_1_method_34_code, 2, none)
def m_TA_isNoLabel : am_M := (⟨"TraceAligner", "isNoLabel", "(I)Z"⟩, prog_1_method_35_code, 1, (some .boolean))
def m_TA_requirePlace : am_M := (⟨"TraceAligner", "requirePlace", "(I)V"⟩, prog_1_method_36_code, 2, none)
def m_TA_requireTransition : am_M := (⟨"TraceAligner", "requireTransition", "(I)V"⟩, prog_1_method_37_code, 2, none)
def m_TA_requireMarkings : am_M := (⟨"TraceAligner", "requireMarkings", "()V"⟩, prog_1_method_38_code, 1, none)
def m_TA_requireMarking : am_M := (⟨"TraceAligner", "requireMarking", "(I)V"⟩, prog_1_method_39_code, 2, none)
def m_TA_requireTrace : am_M := (⟨"TraceAligner", "requireTrace", "(I)V"⟩, prog_1_method_40_code, 2, none)
def m_TA_requireCost : am_M := (⟨"TraceAligner", "requireCost", "(I)V"⟩, prog_1_method_41_code, 1, none)
def m_TA_alignedTrace : am_M := (⟨"TraceAligner", "alignedTrace", "(I)LTraceAligner$Trace;"⟩, prog_1_method_42_code, 2, (some (.object "TraceAligner$Trace")))
def m_TA_isIn : am_M := (⟨"TraceAligner", "isIn", "(II)Z"⟩, prog_1_method_46_code, 2, (some .boolean))
def m_TA_tokensIn : am_M := (⟨"TraceAligner", "tokensIn", "(II)I"⟩, prog_1_method_47_code, 2, (some .int))
def m_TA_packMove : am_M := (⟨"TraceAligner", "packMove", "(IIII)I"⟩, prog_1_method_48_code, 4, (some .int))
def m_TA_kindOf : am_M := (⟨"TraceAligner", "kindOf", "(I)I"⟩, prog_1_method_49_code, 1, (some .int))
def m_TA_transitionOf : am_M := (⟨"TraceAligner", "transitionOf", "(I)I"⟩, prog_1_method_50_code, 1, (some .int))
def m_TA_labelOf : am_M := (⟨"TraceAligner", "labelOf", "(I)I"⟩, prog_1_method_51_code, 1, (some .int))
def m_TA_markingOf : am_M := (⟨"TraceAligner", "markingOf", "(I)I"⟩, prog_1_method_52_code, 1, (some .int))
def m_IN_numberOfTrailingZeros : am_M := (⟨"java/lang/Integer", "numberOfTrailingZeros", "(I)I"⟩, prog_12_method_48_code, 2, (some .int))
def m_MA_max : am_M := (⟨"java/lang/Math", "max", "(II)I"⟩, prog_13_method_65_code, 2, (some .int))
def m_MA_min : am_M := (⟨"java/lang/Math", "min", "(II)I"⟩, prog_13_method_69_code, 2, (some .int))
def m_AR_fill : am_M := (⟨"java/util/Arrays", "fill", "([II)V"⟩, prog_18_method_103_code, 4, none)
def m_LW_below : am_M := (⟨"TraceAlignerLaw", "below", "(II)I"⟩, method_2_code, 2, (some .int))
def m_LW_cell : am_M := (⟨"TraceAlignerLaw", "cell", "([II)I"⟩, method_3_code, 2, (some .int))
def m_LW_build : am_M := (⟨"TraceAlignerLaw", "build", "(LTraceAligner;[II[I[I[I)Z"⟩, method_4_code, 9, (some .boolean))
def m_LW_traces : am_M := (⟨"TraceAlignerLaw", "traces", "(LTraceAligner;[III[[I[I)I"⟩, method_5_code, 10, (some .int))
def m_LW_law : am_M := (⟨"TraceAlignerLaw", "law", "([I)Z"⟩, code, maxLocals, ret)
def F_MG : List am_FR := [(9, 2, 1, 2, true), (15, 2, 2, 2, true), (18, 2, 3, 2, true), (21, 2, 0, 2, true), (25, 2, 4, 1, false), (29, 2, 6, 0, false), (33, 1, 6, 9, false), (42, 2, 5, 0, false), (49, 1, 7, 9, false), (56, 1, 1, 0, false)]
def N_MG : List am_NR := []
def C_MG_0 : List am_MR := [(38, 0, 1, 1, m_NT_codeOf), (45, 0, 2, 1, m_MG_followAll), (52, 0, 2, 1, m_MG_numberOf), (59, 0, 1, 2, m_NT_codeBehind), (63, 0, 2, 1, m_MG_numberOrAppend), (66, 0, 2, 2, m_MG_relaxOnce)]
set_option maxRecDepth 100000 in
theorem okM_MG_0 : am_all2 (am_okMb "TraceAligner$MarkingGraph" "TraceAligner" am_cl am_big) C_MG_0 [(172, 6, 169, 170, 171), (176, 7, 173, 174, 175), (192, 7, 189, 190, 191), (180, 6, 177, 178, 179), (188, 7, 185, 186, 187), (296, 7, 293, 294, 295)] = true := by decide +kernel
def C_MG : List am_MR := C_MG_0
set_option maxRecDepth 100000 in
theorem okF_MG : am_all2 (am_okFb "TraceAligner$MarkingGraph" am_cl am_big) F_MG [70, 71, 73, 69, 74, 79, 49, 76, 52, 36] = true := by decide +kernel
set_option maxRecDepth 100000 in
theorem okN_MG : am_all2 (am_okNb "TraceAligner$MarkingGraph" am_cl am_big) N_MG [] = true := by decide +kernel
theorem okT_MG : am_okT am_cl am_big "TraceAligner$MarkingGraph" (F_MG, N_MG, C_MG) := ⟨am_okF_of am_cl_ok okF_MG, am_okN_of am_cl_ok okN_MG, (am_okM_of "TraceAligner" okM_MG_0)⟩
def F_NT : List am_FR := [(9, 1, 2, 2, true), (15, 1, 3, 2, true), (18, 1, 4, 2, true), (21, 1, 5, 2, true), (24, 1, 6, 2, true), (27, 1, 7, 2, true), (30, 1, 0, 0, false), (34, 1, 1, 0, false)]
def N_NT : List am_NR := []
def C_NT_0 : List am_MR := [(37, 4, 0, 2, m_TA_isIn), (41, 4, 0, 2, m_TA_tokensIn)]
set_option maxRecDepth 100000 in
theorem okM_NT_0 : am_all2 (am_okMb "TraceAligner$Net" "TraceAligner" am_cl am_big) C_NT_0 [(182, 5, 0, 181, 0), (184, 5, 0, 183, 0)] = true := by decide +kernel
def C_NT : List am_MR := C_NT_0
set_option maxRecDepth 100000 in
theorem okF_NT : am_all2 (am_okFb "TraceAligner$Net" am_cl am_big) F_NT [39, 41, 44, 46, 48, 51, 33, 35] = true := by decide +kernel
set_option maxRecDepth 100000 in
theorem okN_NT : am_all2 (am_okNb "TraceAligner$Net" am_cl am_big) N_NT [] = true := by decide +kernel
theorem okT_NT : am_okT am_cl am_big "TraceAligner$Net" (F_NT, N_NT, C_NT) := ⟨am_okF_of am_cl_ok okF_NT, am_okN_of am_cl_ok okN_NT, (am_okM_of "TraceAligner" okM_NT_0)⟩
def F_PF : List am_FR := [(9, 3, 3, 2, true), (17, 3, 4, 2, true), (20, 3, 0, 2, true), (24, 3, 1, 2, true), (28, 3, 2, 2, true), (42, 4, 3, 1, false), (48, 2, 6, 0, false), (61, 4, 4, 0, false), (64, 4, 6, 0, false), (67, 4, 1, 0, false), (70, 4, 5, 0, false), (73, 4, 0, 9, false), (83, 1, 1, 0, false), (88, 1, 3, 9, false), (99, 2, 5, 0, false), (113, 1, 2, 9, false), (121, 4, 7, 2, false)]
def N_PF : List am_NR := []
def C_PF_0 : List am_MR := [(31, 1, 0, 2, m_AR_fill), (37, 0, 3, 1, m_PF_weighEnd), (54, 0, 4, 0, m_TR_setNoAlignment), (57, 0, 3, 1, m_PF_weighAll), (76, 0, 4, 1, m_TR_makeRoom), (80, 0, 3, 1, m_PF_walk)]
set_option maxRecDepth 100000 in
theorem okM_PF_0 : am_all2 (am_okMb "TraceAligner$PathFinder" "TraceAligner" am_cl am_big) C_PF_0 [(91, 8, 284, 90, 0), (288, 9, 285, 286, 287), (348, 10, 345, 346, 347), (352, 9, 349, 350, 351), (368, 10, 365, 366, 367), (375, 9, 372, 373, 374)] = true := by decide +kernel
def C_PF_1 : List am_MR := [(91, 0, 3, 3, m_PF_weighEvent), (95, 0, 2, 2, m_MG_relax), (100, 0, 3, 1, m_PF_traceWeight), (104, 1, 0, 2, m_MA_min), (110, 0, 2, 2, m_MG_follower), (114, 0, 3, 3, m_PF_bestMove)]
set_option maxRecDepth 100000 in
theorem okM_PF_1 : am_all2 (am_okMb "TraceAligner$PathFinder" "TraceAligner" am_cl am_big) C_PF_1 [(356, 9, 353, 354, 355), (292, 7, 289, 290, 291), (360, 9, 357, 358, 359), (363, 18, 361, 362, 0), (271, 7, 364, 269, 270), (379, 9, 376, 377, 378)] = true := by decide +kernel
def C_PF_2 : List am_MR := [(118, 4, 0, 1, m_TA_transitionOf), (124, 4, 0, 1, m_TA_labelOf), (127, 4, 0, 4, m_TA_packMove), (131, 0, 3, 2, m_PF_bestModelTransition)]
set_option maxRecDepth 100000 in
theorem okM_PF_2 : am_all2 (am_okMb "TraceAligner$PathFinder" "TraceAligner" am_cl am_big) C_PF_2 [(387, 5, 0, 386, 0), (389, 5, 0, 388, 0), (381, 5, 0, 380, 0), (385, 9, 382, 383, 384)] = true := by decide +kernel
def C_PF : List am_MR := C_PF_0 ++ (C_PF_1 ++ (C_PF_2))
set_option maxRecDepth 100000 in
theorem okF_PF : am_all2 (am_okFb "TraceAligner$PathFinder" am_cl am_big) F_PF [102, 103, 99, 100, 101, 121, 80, 123, 129, 117, 126, 115, 38, 42, 77, 40, 133] = true := by decide +kernel
set_option maxRecDepth 100000 in
theorem okN_PF : am_all2 (am_okNb "TraceAligner$PathFinder" am_cl am_big) N_PF [] = true := by decide +kernel
theorem okT_PF : am_okT am_cl am_big "TraceAligner$PathFinder" (F_PF, N_PF, C_PF) := ⟨am_okF_of am_cl_ok okF_PF, am_okN_of am_cl_ok okN_PF, (am_okM_app (am_okM_of "TraceAligner" okM_PF_0) (am_okM_app (am_okM_of "TraceAligner" okM_PF_1) (am_okM_of "TraceAligner" okM_PF_2)))⟩
def F_TR : List am_FR := [(9, 4, 0, 2, true), (15, 4, 7, 2, false), (24, 4, 1, 0, false), (28, 4, 2, 0, false), (31, 4, 3, 1, false), (35, 4, 4, 0, false), (38, 4, 5, 0, false), (41, 4, 6, 0, false)]
def N_TR : List am_NR := []
def C_TR_0 : List am_MR := [(44, 1, 0, 2, m_MA_max)]
set_option maxRecDepth 100000 in
theorem okM_TR_0 : am_all2 (am_okMb "TraceAligner$Trace" "TraceAligner" am_cl am_big) C_TR_0 [(371, 18, 369, 370, 0)] = true := by decide +kernel
def C_TR : List am_MR := C_TR_0
set_option maxRecDepth 100000 in
theorem okF_TR : am_all2 (am_okFb "TraceAligner$Trace" am_cl am_big) F_TR [114, 132, 116, 119, 120, 124, 127, 130] = true := by decide +kernel
set_option maxRecDepth 100000 in
theorem okN_TR : am_all2 (am_okNb "TraceAligner$Trace" am_cl am_big) N_TR [] = true := by decide +kernel
theorem okT_TR : am_okT am_cl am_big "TraceAligner$Trace" (F_TR, N_TR, C_TR) := ⟨am_okF_of am_cl_ok okF_TR, am_okN_of am_cl_ok okN_TR, (am_okM_of "TraceAligner" okM_TR_0)⟩
def F_TA : List am_FR := [(10, 0, 0, 2, true), (21, 0, 1, 2, true), (25, 0, 3, 2, true), (40, 0, 2, 2, true), (44, 0, 4, 2, true), (49, 0, 6, 2, true), (54, 0, 8, 2, true), (57, 1, 0, 0, false), (84, 1, 1, 0, false), (100, 1, 4, 9, false), (103, 1, 5, 9, false), (112, 1, 7, 9, false), (115, 1, 6, 9, false), (118, 0, 7, 0, false), (132, 2, 5, 0, false), (148, 2, 2, 9, false), (154, 2, 6, 0, false), (162, 0, 5, 0, false), (180, 4, 1, 0, false), (189, 1, 3, 9, false), (196, 4, 4, 0, false), (199, 4, 6, 0, false), (204, 4, 7, 2, false), (221, 4, 5, 0, false), (265, 2, 4, 1, false), (269, 4, 3, 1, false)]
def N_TA : List am_NR := [(7, 1, [.int 0, .int 0, .null, .null, .null, .null, .null, .null]), (16, 2, [.null, .null, .null, .null, .int 0, .int 0, .int 0]), (35, 3, [.null, .null, .null, .null, .null]), (47, 4, [.null, .int 0, .int 0, .int 0, .int 0, .int 0, .int 0, .null])]
def C_TA_0 : List am_MR := [(9, 5, 1, 0, m_NT_init), (18, 2, 2, 1, m_MG_init), (29, 1, 0, 2, m_AR_fill), (37, 2, 3, 3, m_PF_init), (53, 5, 4, 0, m_TR_init), (68, 0, 0, 0, m_TA_forgetMarkings)]
set_option maxRecDepth 100000 in
theorem okM_TA_0 : am_all2 (am_okMb "TraceAligner" "TraceAligner" am_cl am_big) C_TA_0 [(31, 6, 0, 30, 0), (67, 7, 65, 66, 0), (91, 8, 89, 90, 0), (96, 9, 94, 95, 0), (112, 10, 0, 111, 0), (425, 5, 423, 424, 477)] = true := by decide +kernel
def C_TA_1 : List am_MR := [(71, 0, 1, 0, m_NT_appendPlace), (75, 1, 0, 1, m_TA_isNoLabel), (89, 0, 1, 1, m_NT_appendTransition), (93, 0, 0, 1, m_TA_requireTransition), (97, 0, 0, 1, m_TA_requirePlace), (106, 1, 0, 2, m_TA_isIn)]
set_option maxRecDepth 100000 in
theorem okM_TA_1 : am_all2 (am_okMb "TraceAligner" "TraceAligner" am_cl am_big) C_TA_1 [(432, 6, 429, 430, 431), (303, 5, 301, 302, 0), (447, 6, 444, 445, 446), (267, 5, 265, 266, 474), (439, 5, 437, 438, 479), (182, 5, 452, 181, 0)] = true := by decide +kernel
def C_TA_2 : List am_MR := [(129, 0, 2, 0, m_MG_explore), (135, 0, 0, 0, m_TA_requireMarkings), (138, 0, 0, 1, m_TA_requireMarking), (151, 0, 2, 2, m_MG_follower), (157, 0, 3, 1, m_PF_stepsToLast), (171, 0, 4, 3, m_TR_take)]
set_option maxRecDepth 100000 in
theorem okM_TA_2 : am_all2 (am_okMb "TraceAligner" "TraceAligner" am_cl am_big) C_TA_2 [(168, 7, 165, 166, 167), (199, 5, 197, 198, 472), (247, 5, 245, 246, 473), (271, 7, 268, 269, 270), (283, 9, 280, 281, 282), (324, 10, 321, 322, 323)] = true := by decide +kernel
def C_TA_3 : List am_MR := [(177, 0, 0, 1, m_TA_requireTrace), (183, 1, 0, 1, m_TA_requireCost), (186, 0, 0, 0, m_TA_forgetAlignments), (192, 0, 0, 1, m_TA_alignedTrace), (207, 1, 0, 1, m_TA_kindOf), (210, 1, 0, 1, m_TA_transitionOf)]
set_option maxRecDepth 100000 in
theorem okM_TA_3 : am_all2 (am_okMb "TraceAligner" "TraceAligner" am_cl am_big) C_TA_3 [(333, 5, 331, 332, 475), (459, 5, 457, 458, 0), (428, 5, 426, 427, 478), (340, 5, 338, 339, 476), (400, 5, 398, 399, 0), (387, 5, 401, 386, 0)] = true := by decide +kernel
def C_TA_4 : List am_MR := [(213, 1, 0, 1, m_TA_labelOf), (216, 1, 0, 1, m_TA_markingOf), (236, 0, 3, 1, m_PF_align)]
set_option maxRecDepth 100000 in
theorem okM_TA_4 : am_all2 (am_okMb "TraceAligner" "TraceAligner" am_cl am_big) C_TA_4 [(389, 5, 402, 388, 0), (405, 5, 403, 404, 0), (344, 9, 341, 342, 343)] = true := by decide +kernel
def C_TA : List am_MR := C_TA_0 ++ (C_TA_1 ++ (C_TA_2 ++ (C_TA_3 ++ (C_TA_4))))
set_option maxRecDepth 100000 in
theorem okF_TA : am_all2 (am_okFb "TraceAligner" am_cl am_big) F_TA [143, 144, 146, 145, 147, 149, 151, 34, 37, 45, 47, 53, 50, 150, 78, 72, 81, 148, 118, 43, 125, 131, 134, 128, 75, 122] = true := by decide +kernel
set_option maxRecDepth 100000 in
theorem okN_TA : am_all2 (am_okNb "TraceAligner" am_cl am_big) N_TA [(28, 29, 6), (63, 64, 7), (92, 93, 9), (109, 110, 10)] = true := by decide +kernel
theorem okT_TA : am_okT am_cl am_big "TraceAligner" (F_TA, N_TA, C_TA) := ⟨am_okF_of am_cl_ok okF_TA, am_okN_of am_cl_ok okN_TA, (am_okM_app (am_okM_of "TraceAligner" okM_TA_0) (am_okM_app (am_okM_of "TraceAligner" okM_TA_1) (am_okM_app (am_okM_of "TraceAligner" okM_TA_2) (am_okM_app (am_okM_of "TraceAligner" okM_TA_3) (am_okM_of "TraceAligner" okM_TA_4)))))⟩
def F_IN : List am_FR := []
def N_IN : List am_NR := []
def C_IN_0 : List am_MR := []
set_option maxRecDepth 100000 in
theorem okM_IN_0 : am_all2 (am_okMb "java/lang/Integer" "TraceAligner" am_cl am_big) C_IN_0 [] = true := by decide +kernel
def C_IN : List am_MR := C_IN_0
set_option maxRecDepth 100000 in
theorem okF_IN : am_all2 (am_okFb "java/lang/Integer" am_cl am_big) F_IN [] = true := by decide +kernel
set_option maxRecDepth 100000 in
theorem okN_IN : am_all2 (am_okNb "java/lang/Integer" am_cl am_big) N_IN [] = true := by decide +kernel
theorem okT_IN : am_okT am_cl am_big "java/lang/Integer" (F_IN, N_IN, C_IN) := ⟨am_okF_of am_cl_ok okF_IN, am_okN_of am_cl_ok okN_IN, (am_okM_of "TraceAligner" okM_IN_0)⟩
def F_MA : List am_FR := []
def N_MA : List am_NR := []
def C_MA_0 : List am_MR := []
set_option maxRecDepth 100000 in
theorem okM_MA_0 : am_all2 (am_okMb "java/lang/Math" "TraceAligner" am_cl am_big) C_MA_0 [] = true := by decide +kernel
def C_MA : List am_MR := C_MA_0
set_option maxRecDepth 100000 in
theorem okF_MA : am_all2 (am_okFb "java/lang/Math" am_cl am_big) F_MA [] = true := by decide +kernel
set_option maxRecDepth 100000 in
theorem okN_MA : am_all2 (am_okNb "java/lang/Math" am_cl am_big) N_MA [] = true := by decide +kernel
theorem okT_MA : am_okT am_cl am_big "java/lang/Math" (F_MA, N_MA, C_MA) := ⟨am_okF_of am_cl_ok okF_MA, am_okN_of am_cl_ok okN_MA, (am_okM_of "TraceAligner" okM_MA_0)⟩
def F_AR : List am_FR := []
def N_AR : List am_NR := []
def C_AR_0 : List am_MR := []
set_option maxRecDepth 100000 in
theorem okM_AR_0 : am_all2 (am_okMb "java/util/Arrays" "TraceAligner" am_cl am_big) C_AR_0 [] = true := by decide +kernel
def C_AR : List am_MR := C_AR_0
set_option maxRecDepth 100000 in
theorem okF_AR : am_all2 (am_okFb "java/util/Arrays" am_cl am_big) F_AR [] = true := by decide +kernel
set_option maxRecDepth 100000 in
theorem okN_AR : am_all2 (am_okNb "java/util/Arrays" am_cl am_big) N_AR [] = true := by decide +kernel
theorem okT_AR : am_okT am_cl am_big "java/util/Arrays" (F_AR, N_AR, C_AR) := ⟨am_okF_of am_cl_ok okF_AR, am_okN_of am_cl_ok okN_AR, (am_okM_of "TraceAligner" okM_AR_0)⟩
def F_LW : List am_FR := []
def N_LW : List am_NR := [(20, 0, [.null, .null, .null, .null, .null, .int 0, .null, .int 0, .null])]
def C_LW_4 : List am_MR := [(55, 1, 0, 6, m_LW_build)]
set_option maxRecDepth 100000 in
theorem okP_LW_4 : ∀ q ∈ C_LW_4, am_okM "TraceAlignerLaw" am_cl am_big q := fun q hq => by
  cases List.mem_singleton.mp hq
  exact ⟨List.mem_of_getElem? (i := 418) rfl, ⟨by decide +kernel, by decide +kernel, by decide +kernel⟩, List.mem_of_getElem? (i := 4) rfl, ⟨List.mem_of_getElem? (i := 416) rfl, List.mem_of_getElem? (i := 417) rfl⟩⟩
def C_LW_0 : List am_MR := [(9, 1, 0, 2, m_LW_cell), (15, 1, 0, 2, m_LW_below), (19, 0, 0, 0, m_TA_addPlace), (25, 0, 0, 3, m_TA_setTokens), (29, 0, 0, 1, m_TA_addTransition), (33, 0, 0, 4, m_TA_link)]
set_option maxRecDepth 100000 in
theorem okM_LW_0 : am_all2 (am_okMb "TraceAlignerLaw" "TraceAligner" am_cl am_big) C_LW_0 [(415, 4, 413, 414, 0), (412, 4, 410, 411, 0), (422, 5, 419, 420, 421), (436, 5, 433, 434, 435), (443, 5, 440, 441, 442), (451, 5, 448, 449, 450)] = true := by decide +kernel
def C_LW_1 : List am_MR := [(37, 0, 0, 2, m_TA_setCost), (40, 0, 0, 1, m_TA_count), (43, 0, 0, 1, m_TA_event), (46, 0, 0, 1, m_TA_store), (49, 0, 0, 1, m_TA_length), (52, 2, 0, 0, m_TA_init)]
set_option maxRecDepth 100000 in
theorem okM_LW_1 : am_all2 (am_okMb "TraceAlignerLaw" "TraceAligner" am_cl am_big) C_LW_1 [(456, 5, 453, 454, 455), (463, 5, 460, 461, 462), (300, 5, 297, 298, 299), (320, 5, 317, 318, 319), (330, 5, 327, 328, 329), (24, 5, 22, 23, 0)] = true := by decide +kernel
def C_LW_2 : List am_MR := [(59, 1, 0, 6, m_LW_traces), (63, 0, 0, 0, m_TA_markings), (66, 0, 0, 0, m_TA_last), (69, 0, 0, 1, m_TA_moves), (72, 0, 0, 3, m_TA_move), (76, 0, 0, 1, m_TA_enabled)]
set_option maxRecDepth 100000 in
theorem okM_LW_2 : am_all2 (am_okMb "TraceAlignerLaw" "TraceAligner" am_cl am_big) C_LW_2 [(466, 4, 464, 465, 0), (164, 5, 161, 162, 163), (275, 5, 272, 273, 274), (393, 5, 390, 391, 392), (397, 5, 394, 395, 396), (196, 5, 193, 194, 195)] = true := by decide +kernel
def C_LW_3 : List am_MR := [(79, 0, 0, 2, m_TA_next), (82, 0, 0, 1, m_TA_cost), (85, 0, 0, 1, m_TA_worst), (88, 0, 0, 1, m_TA_away), (91, 1, 0, 2, m_MA_max), (96, 1, 0, 1, m_IN_numberOfTrailingZeros)]
set_option maxRecDepth 100000 in
theorem okM_LW_3 : am_all2 (am_okMb "TraceAlignerLaw" "TraceAligner" am_cl am_big) C_LW_3 [(264, 5, 261, 262, 263), (337, 5, 334, 335, 336), (409, 5, 406, 407, 408), (279, 5, 276, 277, 278), (371, 18, 470, 370, 0), (469, 19, 467, 468, 0)] = true := by decide +kernel
def C_LW : List am_MR := C_LW_0 ++ (C_LW_1 ++ (C_LW_2 ++ (C_LW_3 ++ (C_LW_4))))
set_option maxRecDepth 100000 in
theorem okF_LW : am_all2 (am_okFb "TraceAlignerLaw" am_cl am_big) F_LW [] = true := by decide +kernel
set_option maxRecDepth 100000 in
theorem okN_LW : am_all2 (am_okNb "TraceAlignerLaw" am_cl am_big) N_LW [(20, 21, 5)] = true := by decide +kernel
theorem okT_LW : am_okT am_cl am_big "TraceAlignerLaw" (F_LW, N_LW, C_LW) := ⟨am_okF_of am_cl_ok okF_LW, am_okN_of am_cl_ok okN_LW, (am_okM_app (am_okM_of "TraceAligner" okM_LW_0) (am_okM_app (am_okM_of "TraceAligner" okM_LW_1) (am_okM_app (am_okM_of "TraceAligner" okM_LW_2) (am_okM_app (am_okM_of "TraceAligner" okM_LW_3) okP_LW_4))))⟩
set_option maxRecDepth 100000 in
def r_MG_init_0 : List am_Row := [(0, .aload_n 0, 1, 0, .null), (1, .invokespecial 3, 4, 0, .null), (4, .aload_n 0, 5, 0, .null), (5, .sipush 200, 8, 0, .int (nI 200)), (8, .newarray .int, 10, 0, .null), (10, .putfield 9, 13, 0, .null), (13, .aload_n 0, 14, 0, .null), (14, .sipush 200, 17, 0, .int (nI 200)), (17, .newarray .int, 19, 0, .null), (19, .putfield 15, 22, 0, .null), (22, .aload_n 0, 23, 0, .null), (23, .sipush 2000, 26, 0, .int (nI 2000)), (26, .newarray .int, 28, 0, .null), (28, .putfield 18, 31, 0, .null), (31, .aload_n 0, 32, 0, .null), (32, .aload_n 1, 33, 0, .null), (33, .putfield 21, 36, 0, .null), (36, .return_, 37, 0, .null)]
set_option maxRecDepth 100000 in
theorem ok_MG_init_0 : r_MG_init_0.all (am_okRowb "TraceAligner$MarkingGraph" prog_2_method_1_code am_big) = true := by decide +kernel
def r_MG_init : List am_Row := r_MG_init_0
def E_MG_init : am_E := (am_G0, (F_MG, N_MG, C_MG), m_MG_init, r_MG_init)
theorem e_MG_init : am_okE E_MG_init := ⟨am_big_good, okT_MG, am_okRow_of ok_MG_init_0⟩
set_option maxRecDepth 100000 in
def r_MG_explore_0 : List am_Row := [(0, .aload_n 0, 1, 0, .null), (1, .getfield 25, 4, 0, .null), (4, .ifCond .eq 4, 7, 8, .null), (7, .return_, 8, 0, .null), (8, .aload_n 0, 9, 0, .null), (9, .iconst 1, 10, 0, .int (nI 1)), (10, .putfield 25, 13, 0, .null), (13, .aload_n 0, 14, 0, .null), (14, .iconst (-1), 15, 0, .int (-1)), (15, .putfield 29, 18, 0, .null), (18, .aload_n 0, 19, 0, .null), (19, .getfield 9, 22, 0, .null), (22, .iconst 0, 23, 0, .int (nI 0)), (23, .aload_n 0, 24, 0, .null), (24, .getfield 21, 27, 0, .null), (27, .aload_n 0, 28, 0, .null), (28, .getfield 21, 31, 0, .null), (31, .getfield 33, 34, 0, .null), (34, .invokevirtual 38, 37, 0, .null), (37, .iastore, 38, 0, .null), (38, .aload_n 0, 39, 0, .null), (39, .iconst 1, 40, 0, .int (nI 1)), (40, .putfield 42, 43, 0, .null), (43, .iconst 0, 44, 0, .int (nI 0)), (44, .istore_n 1, 45, 0, .null), (45, .iload_n 1, 46, 0, .null), (46, .sipush 200, 49, 0, .int (nI 200)), (49, .if_icmp .ge 31, 52, 80, .null), (52, .iload_n 1, 53, 0, .null), (53, .aload_n 0, 54, 0, .null), (54, .getfield 42, 57, 0, .null), (57, .if_icmp .ge 23, 60, 80, .null), (60, .aload_n 0, 61, 0, .null), (61, .iload_n 1, 62, 0, .null), (62, .invokevirtual 45, 65, 0, .null), (65, .ifCond .ne 9, 68, 74, .null), (68, .aload_n 0, 69, 0, .null), (69, .iconst (-1), 70, 0, .int (-1)), (70, .putfield 42, 73, 0, .null), (73, .return_, 74, 0, .null)]
set_option maxRecDepth 100000 in
theorem ok_MG_explore_0 : r_MG_explore_0.all (am_okRowb "TraceAligner$MarkingGraph" prog_2_method_2_code am_big) = true := by decide +kernel
set_option maxRecDepth 100000 in
def r_MG_explore_1 : List am_Row := [(74, .iinc 1 1, 77, 0, .int (nI 1)), (77, .goto (-32), 80, 45, .null), (80, .aload_n 0, 81, 0, .null), (81, .aload_n 0, 82, 0, .null), (82, .aload_n 0, 83, 0, .null), (83, .getfield 21, 86, 0, .null), (86, .aload_n 0, 87, 0, .null), (87, .getfield 21, 90, 0, .null), (90, .getfield 49, 93, 0, .null), (93, .invokevirtual 38, 96, 0, .null), (96, .invokevirtual 52, 99, 0, .null), (99, .putfield 29, 102, 0, .null), (102, .return_, 103, 0, .null)]
set_option maxRecDepth 100000 in
theorem ok_MG_explore_1 : r_MG_explore_1.all (am_okRowb "TraceAligner$MarkingGraph" prog_2_method_2_code am_big) = true := by decide +kernel
def r_MG_explore : List am_Row := r_MG_explore_0 ++ (r_MG_explore_1)
def E_MG_explore : am_E := (am_G0, (F_MG, N_MG, C_MG), m_MG_explore, r_MG_explore)
theorem e_MG_explore : am_okE E_MG_explore := ⟨am_big_good, okT_MG, am_okRow_of (am_all_app ok_MG_explore_0 ok_MG_explore_1)⟩
set_option maxRecDepth 100000 in
def r_MG_followAll_0 : List am_Row := [(0, .aload_n 0, 1, 0, .null), (1, .getfield 15, 4, 0, .null), (4, .iload_n 1, 5, 0, .null), (5, .iconst 0, 6, 0, .int (nI 0)), (6, .iastore, 7, 0, .null), (7, .iconst 0, 8, 0, .int (nI 0)), (8, .istore_n 2, 9, 0, .null), (9, .iload_n 2, 10, 0, .null), (10, .aload_n 0, 11, 0, .null), (11, .getfield 21, 14, 0, .null), (14, .getfield 56, 17, 0, .null), (17, .if_icmp .ge 72, 20, 89, .null), (20, .aload_n 0, 21, 0, .null), (21, .getfield 21, 24, 0, .null), (24, .aload_n 0, 25, 0, .null), (25, .getfield 9, 28, 0, .null), (28, .iload_n 1, 29, 0, .null), (29, .iaload, 30, 0, .null), (30, .iload_n 2, 31, 0, .null), (31, .invokevirtual 59, 34, 0, .null), (34, .istore_n 3, 35, 0, .null), (35, .iconst (-1), 36, 0, .int (-1)), (36, .istore 4, 38, 0, .null), (38, .iload_n 3, 39, 0, .null), (39, .iconst (-1), 40, 0, .int (-1)), (40, .if_icmp .eq 30, 43, 70, .null), (43, .aload_n 0, 44, 0, .null), (44, .iload_n 3, 45, 0, .null), (45, .invokevirtual 63, 48, 0, .null), (48, .istore 4, 50, 0, .null), (50, .iload 4, 52, 0, .null), (52, .iconst (-1), 53, 0, .int (-1)), (53, .if_icmp .ne 5, 56, 58, .null), (56, .iconst 0, 57, 0, .int (nI 0)), (57, .ireturn, 58, 0, .null), (58, .aload_n 0, 59, 0, .null), (59, .getfield 15, 62, 0, .null), (62, .iload_n 1, 63, 0, .null), (63, .dup2, 64, 0, .null), (64, .iaload, 65, 0, .null)]
set_option maxRecDepth 100000 in
theorem ok_MG_followAll_0 : r_MG_followAll_0.all (am_okRowb "TraceAligner$MarkingGraph" prog_2_method_3_code am_big) = true := by decide +kernel
set_option maxRecDepth 100000 in
def r_MG_followAll_1 : List am_Row := [(65, .iconst 1, 66, 0, .int (nI 1)), (66, .iload_n 2, 67, 0, .null), (67, .ishl, 68, 0, .null), (68, .ior, 69, 0, .null), (69, .iastore, 70, 0, .null), (70, .aload_n 0, 71, 0, .null), (71, .getfield 18, 74, 0, .null), (74, .iload_n 1, 75, 0, .null), (75, .bipush 10, 77, 0, .int (nI 10)), (77, .imul, 78, 0, .null), (78, .iload_n 2, 79, 0, .null), (79, .iadd, 80, 0, .null), (80, .iload 4, 82, 0, .null), (82, .iastore, 83, 0, .null), (83, .iinc 2 1, 86, 0, .int (nI 1)), (86, .goto (-77), 89, 9, .null), (89, .iconst 1, 90, 0, .int (nI 1)), (90, .ireturn, 91, 0, .null)]
set_option maxRecDepth 100000 in
theorem ok_MG_followAll_1 : r_MG_followAll_1.all (am_okRowb "TraceAligner$MarkingGraph" prog_2_method_3_code am_big) = true := by decide +kernel
def r_MG_followAll : List am_Row := r_MG_followAll_0 ++ (r_MG_followAll_1)
def E_MG_followAll : am_E := (am_G0, (F_MG, N_MG, C_MG), m_MG_followAll, r_MG_followAll)
theorem e_MG_followAll : am_okE E_MG_followAll := ⟨am_big_good, okT_MG, am_okRow_of (am_all_app ok_MG_followAll_0 ok_MG_followAll_1)⟩
set_option maxRecDepth 100000 in
def r_MG_numberOf_0 : List am_Row := [(0, .iconst 0, 1, 0, .int (nI 0)), (1, .istore_n 2, 2, 0, .null), (2, .iload_n 2, 3, 0, .null), (3, .aload_n 0, 4, 0, .null), (4, .getfield 42, 7, 0, .null), (7, .if_icmp .ge 21, 10, 28, .null), (10, .aload_n 0, 11, 0, .null), (11, .getfield 9, 14, 0, .null), (14, .iload_n 2, 15, 0, .null), (15, .iaload, 16, 0, .null), (16, .iload_n 1, 17, 0, .null), (17, .if_icmp .ne 5, 20, 22, .null), (20, .iload_n 2, 21, 0, .null), (21, .ireturn, 22, 0, .null), (22, .iinc 2 1, 25, 0, .int (nI 1)), (25, .goto (-23), 28, 2, .null), (28, .iconst (-1), 29, 0, .int (-1)), (29, .ireturn, 30, 0, .null)]
set_option maxRecDepth 100000 in
theorem ok_MG_numberOf_0 : r_MG_numberOf_0.all (am_okRowb "TraceAligner$MarkingGraph" prog_2_method_4_code am_big) = true := by decide +kernel
def r_MG_numberOf : List am_Row := r_MG_numberOf_0
def E_MG_numberOf : am_E := (am_G0, (F_MG, N_MG, C_MG), m_MG_numberOf, r_MG_numberOf)
theorem e_MG_numberOf : am_okE E_MG_numberOf := ⟨am_big_good, okT_MG, am_okRow_of ok_MG_numberOf_0⟩
set_option maxRecDepth 100000 in
def r_MG_numberOrAppend_0 : List am_Row := [(0, .aload_n 0, 1, 0, .null), (1, .iload_n 1, 2, 0, .null), (2, .invokevirtual 52, 5, 0, .null), (5, .istore_n 2, 6, 0, .null), (6, .iload_n 2, 7, 0, .null), (7, .iconst (-1), 8, 0, .int (-1)), (8, .if_icmp .ne 13, 11, 21, .null), (11, .aload_n 0, 12, 0, .null), (12, .getfield 42, 15, 0, .null), (15, .sipush 200, 18, 0, .int (nI 200)), (18, .if_icmp .lt 5, 21, 23, .null), (21, .iload_n 2, 22, 0, .null), (22, .ireturn, 23, 0, .null), (23, .aload_n 0, 24, 0, .null), (24, .getfield 9, 27, 0, .null), (27, .aload_n 0, 28, 0, .null), (28, .getfield 42, 31, 0, .null), (31, .iload_n 1, 32, 0, .null), (32, .iastore, 33, 0, .null), (33, .aload_n 0, 34, 0, .null), (34, .dup, 35, 0, .null), (35, .getfield 42, 38, 0, .null), (38, .iconst 1, 39, 0, .int (nI 1)), (39, .iadd, 40, 0, .null), (40, .putfield 42, 43, 0, .null), (43, .aload_n 0, 44, 0, .null), (44, .getfield 42, 47, 0, .null), (47, .iconst 1, 48, 0, .int (nI 1)), (48, .isub, 49, 0, .null), (49, .ireturn, 50, 0, .null)]
set_option maxRecDepth 100000 in
theorem ok_MG_numberOrAppend_0 : r_MG_numberOrAppend_0.all (am_okRowb "TraceAligner$MarkingGraph" prog_2_method_5_code am_big) = true := by decide +kernel
def r_MG_numberOrAppend : List am_Row := r_MG_numberOrAppend_0
def E_MG_numberOrAppend : am_E := (am_G0, (F_MG, N_MG, C_MG), m_MG_numberOrAppend, r_MG_numberOrAppend)
theorem e_MG_numberOrAppend : am_okE E_MG_numberOrAppend := ⟨am_big_good, okT_MG, am_okRow_of ok_MG_numberOrAppend_0⟩
set_option maxRecDepth 100000 in
def r_MG_follower_0 : List am_Row := [(0, .aload_n 0, 1, 0, .null), (1, .getfield 18, 4, 0, .null), (4, .iload_n 1, 5, 0, .null), (5, .bipush 10, 7, 0, .int (nI 10)), (7, .imul, 8, 0, .null), (8, .iload_n 2, 9, 0, .null), (9, .iadd, 10, 0, .null), (10, .iaload, 11, 0, .null), (11, .ireturn, 12, 0, .null)]
set_option maxRecDepth 100000 in
theorem ok_MG_follower_0 : r_MG_follower_0.all (am_okRowb "TraceAligner$MarkingGraph" prog_2_method_6_code am_big) = true := by decide +kernel
def r_MG_follower : List am_Row := r_MG_follower_0
def E_MG_follower : am_E := (am_G0, (F_MG, N_MG, C_MG), m_MG_follower, r_MG_follower)
theorem e_MG_follower : am_okE E_MG_follower := ⟨am_big_good, okT_MG, am_okRow_of ok_MG_follower_0⟩
set_option maxRecDepth 100000 in
def r_MG_relax_0 : List am_Row := [(0, .iconst 0, 1, 0, .int (nI 0)), (1, .istore_n 3, 2, 0, .null), (2, .iload_n 3, 3, 0, .null), (3, .aload_n 0, 4, 0, .null), (4, .getfield 42, 7, 0, .null), (7, .if_icmp .ge 19, 10, 26, .null), (10, .aload_n 0, 11, 0, .null), (11, .aload_n 1, 12, 0, .null), (12, .aload_n 2, 13, 0, .null), (13, .invokevirtual 66, 16, 0, .null), (16, .ifCond .ne 4, 19, 20, .null), (19, .return_, 20, 0, .null), (20, .iinc 3 1, 23, 0, .int (nI 1)), (23, .goto (-21), 26, 2, .null), (26, .return_, 27, 0, .null)]
set_option maxRecDepth 100000 in
theorem ok_MG_relax_0 : r_MG_relax_0.all (am_okRowb "TraceAligner$MarkingGraph" prog_2_method_7_code am_big) = true := by decide +kernel
def r_MG_relax : List am_Row := r_MG_relax_0
def E_MG_relax : am_E := (am_G0, (F_MG, N_MG, C_MG), m_MG_relax, r_MG_relax)
theorem e_MG_relax : am_okE E_MG_relax := ⟨am_big_good, okT_MG, am_okRow_of ok_MG_relax_0⟩
set_option maxRecDepth 100000 in
def r_MG_relaxOnce_0 : List am_Row := [(0, .iconst 0, 1, 0, .int (nI 0)), (1, .istore_n 3, 2, 0, .null), (2, .aload_n 0, 3, 0, .null), (3, .getfield 42, 6, 0, .null), (6, .iconst 1, 7, 0, .int (nI 1)), (7, .isub, 8, 0, .null), (8, .istore 4, 10, 0, .null), (10, .iload 4, 12, 0, .null), (12, .ifCond .lt 82, 15, 94, .null), (15, .iconst 0, 16, 0, .int (nI 0)), (16, .istore 5, 18, 0, .null), (18, .iload 5, 20, 0, .null), (20, .aload_n 0, 21, 0, .null), (21, .getfield 21, 24, 0, .null), (24, .getfield 56, 27, 0, .null), (27, .if_icmp .ge 61, 30, 88, .null), (30, .aload_n 0, 31, 0, .null), (31, .getfield 18, 34, 0, .null), (34, .iload 4, 36, 0, .null), (36, .bipush 10, 38, 0, .int (nI 10)), (38, .imul, 39, 0, .null), (39, .iload 5, 41, 0, .null), (41, .iadd, 42, 0, .null), (42, .iaload, 43, 0, .null), (43, .istore 6, 45, 0, .null), (45, .iload 6, 47, 0, .null), (47, .iconst (-1), 48, 0, .int (-1)), (48, .if_icmp .eq 34, 51, 82, .null), (51, .aload_n 1, 52, 0, .null), (52, .iload 6, 54, 0, .null), (54, .iaload, 55, 0, .null), (55, .aload_n 2, 56, 0, .null), (56, .iload 5, 58, 0, .null), (58, .iaload, 59, 0, .null), (59, .iadd, 60, 0, .null), (60, .aload_n 1, 61, 0, .null), (61, .iload 4, 63, 0, .null), (63, .iaload, 64, 0, .null), (64, .if_icmp .ge 18, 67, 82, .null), (67, .aload_n 1, 68, 0, .null)]
set_option maxRecDepth 100000 in
theorem ok_MG_relaxOnce_0 : r_MG_relaxOnce_0.all (am_okRowb "TraceAligner$MarkingGraph" prog_2_method_8_code am_big) = true := by decide +kernel
set_option maxRecDepth 100000 in
def r_MG_relaxOnce_1 : List am_Row := [(68, .iload 4, 70, 0, .null), (70, .aload_n 1, 71, 0, .null), (71, .iload 6, 73, 0, .null), (73, .iaload, 74, 0, .null), (74, .aload_n 2, 75, 0, .null), (75, .iload 5, 77, 0, .null), (77, .iaload, 78, 0, .null), (78, .iadd, 79, 0, .null), (79, .iastore, 80, 0, .null), (80, .iconst 1, 81, 0, .int (nI 1)), (81, .istore_n 3, 82, 0, .null), (82, .iinc 5 1, 85, 0, .int (nI 1)), (85, .goto (-67), 88, 18, .null), (88, .iinc 4 (-1), 91, 0, .int (-1)), (91, .goto (-81), 94, 10, .null), (94, .iload_n 3, 95, 0, .null), (95, .ireturn, 96, 0, .null)]
set_option maxRecDepth 100000 in
theorem ok_MG_relaxOnce_1 : r_MG_relaxOnce_1.all (am_okRowb "TraceAligner$MarkingGraph" prog_2_method_8_code am_big) = true := by decide +kernel
def r_MG_relaxOnce : List am_Row := r_MG_relaxOnce_0 ++ (r_MG_relaxOnce_1)
def E_MG_relaxOnce : am_E := (am_G0, (F_MG, N_MG, C_MG), m_MG_relaxOnce, r_MG_relaxOnce)
theorem e_MG_relaxOnce : am_okE E_MG_relaxOnce := ⟨am_big_good, okT_MG, am_okRow_of (am_all_app ok_MG_relaxOnce_0 ok_MG_relaxOnce_1)⟩
set_option maxRecDepth 100000 in
def r_NT_init_0 : List am_Row := [(0, .aload_n 0, 1, 0, .null), (1, .invokespecial 3, 4, 0, .null), (4, .aload_n 0, 5, 0, .null), (5, .bipush 10, 7, 0, .int (nI 10)), (7, .newarray .int, 9, 0, .null), (9, .putfield 9, 12, 0, .null), (12, .aload_n 0, 13, 0, .null), (13, .bipush 10, 15, 0, .int (nI 10)), (15, .newarray .int, 17, 0, .null), (17, .putfield 15, 20, 0, .null), (20, .aload_n 0, 21, 0, .null), (21, .bipush 10, 23, 0, .int (nI 10)), (23, .newarray .int, 25, 0, .null), (25, .putfield 18, 28, 0, .null), (28, .aload_n 0, 29, 0, .null), (29, .bipush 10, 31, 0, .int (nI 10)), (31, .newarray .int, 33, 0, .null), (33, .putfield 21, 36, 0, .null), (36, .aload_n 0, 37, 0, .null), (37, .bipush 8, 39, 0, .int (nI 8)), (39, .newarray .int, 41, 0, .null), (41, .putfield 24, 44, 0, .null), (44, .aload_n 0, 45, 0, .null), (45, .bipush 8, 47, 0, .int (nI 8)), (47, .newarray .int, 49, 0, .null), (49, .putfield 27, 52, 0, .null), (52, .return_, 53, 0, .null)]
set_option maxRecDepth 100000 in
theorem ok_NT_init_0 : r_NT_init_0.all (am_okRowb "TraceAligner$Net" prog_3_method_1_code am_big) = true := by decide +kernel
def r_NT_init : List am_Row := r_NT_init_0
def E_NT_init : am_E := (am_G0, (F_NT, N_NT, C_NT), m_NT_init, r_NT_init)
theorem e_NT_init : am_okE E_NT_init := ⟨am_big_good, okT_NT, am_okRow_of ok_NT_init_0⟩
set_option maxRecDepth 100000 in
def r_NT_appendPlace_0 : List am_Row := [(0, .aload_n 0, 1, 0, .null), (1, .dup, 2, 0, .null), (2, .getfield 30, 5, 0, .null), (5, .iconst 1, 6, 0, .int (nI 1)), (6, .iadd, 7, 0, .null), (7, .putfield 30, 10, 0, .null), (10, .aload_n 0, 11, 0, .null), (11, .getfield 30, 14, 0, .null), (14, .iconst 1, 15, 0, .int (nI 1)), (15, .isub, 16, 0, .null), (16, .ireturn, 17, 0, .null)]
set_option maxRecDepth 100000 in
theorem ok_NT_appendPlace_0 : r_NT_appendPlace_0.all (am_okRowb "TraceAligner$Net" prog_3_method_2_code am_big) = true := by decide +kernel
def r_NT_appendPlace : List am_Row := r_NT_appendPlace_0
def E_NT_appendPlace : am_E := (am_G0, (F_NT, N_NT, C_NT), m_NT_appendPlace, r_NT_appendPlace)
theorem e_NT_appendPlace : am_okE E_NT_appendPlace := ⟨am_big_good, okT_NT, am_okRow_of ok_NT_appendPlace_0⟩
set_option maxRecDepth 100000 in
def r_NT_appendTransition_0 : List am_Row := [(0, .aload_n 0, 1, 0, .null), (1, .getfield 9, 4, 0, .null), (4, .aload_n 0, 5, 0, .null), (5, .getfield 34, 8, 0, .null), (8, .iload_n 1, 9, 0, .null), (9, .iastore, 10, 0, .null), (10, .aload_n 0, 11, 0, .null), (11, .getfield 15, 14, 0, .null), (14, .aload_n 0, 15, 0, .null), (15, .getfield 34, 18, 0, .null), (18, .iload_n 1, 19, 0, .null), (19, .iconst (-1), 20, 0, .int (-1)), (20, .if_icmp .ne 7, 23, 27, .null), (23, .iconst 0, 24, 0, .int (nI 0)), (24, .goto 4, 27, 28, .null), (27, .iconst 1, 28, 0, .int (nI 1)), (28, .iastore, 29, 0, .null), (29, .aload_n 0, 30, 0, .null), (30, .dup, 31, 0, .null), (31, .getfield 34, 34, 0, .null), (34, .iconst 1, 35, 0, .int (nI 1)), (35, .iadd, 36, 0, .null), (36, .putfield 34, 39, 0, .null), (39, .aload_n 0, 40, 0, .null), (40, .getfield 34, 43, 0, .null), (43, .iconst 1, 44, 0, .int (nI 1)), (44, .isub, 45, 0, .null), (45, .ireturn, 46, 0, .null)]
set_option maxRecDepth 100000 in
theorem ok_NT_appendTransition_0 : r_NT_appendTransition_0.all (am_okRowb "TraceAligner$Net" prog_3_method_3_code am_big) = true := by decide +kernel
def r_NT_appendTransition : List am_Row := r_NT_appendTransition_0
def E_NT_appendTransition : am_E := (am_G0, (F_NT, N_NT, C_NT), m_NT_appendTransition, r_NT_appendTransition)
theorem e_NT_appendTransition : am_okE E_NT_appendTransition := ⟨am_big_good, okT_NT, am_okRow_of ok_NT_appendTransition_0⟩
set_option maxRecDepth 100000 in
def r_NT_codeOf_0 : List am_Row := [(0, .iconst 0, 1, 0, .int (nI 0)), (1, .istore_n 2, 2, 0, .null), (2, .iconst 0, 3, 0, .int (nI 0)), (3, .istore_n 3, 4, 0, .null), (4, .iload_n 3, 5, 0, .null), (5, .aload_n 0, 6, 0, .null), (6, .getfield 30, 9, 0, .null), (9, .if_icmp .ge 19, 12, 28, .null), (12, .iload_n 2, 13, 0, .null), (13, .aload_n 1, 14, 0, .null), (14, .iload_n 3, 15, 0, .null), (15, .iaload, 16, 0, .null), (16, .iconst 2, 17, 0, .int (nI 2)), (17, .iload_n 3, 18, 0, .null), (18, .imul, 19, 0, .null), (19, .ishl, 20, 0, .null), (20, .ior, 21, 0, .null), (21, .istore_n 2, 22, 0, .null), (22, .iinc 3 1, 25, 0, .int (nI 1)), (25, .goto (-21), 28, 4, .null), (28, .iload_n 2, 29, 0, .null), (29, .ireturn, 30, 0, .null)]
set_option maxRecDepth 100000 in
theorem ok_NT_codeOf_0 : r_NT_codeOf_0.all (am_okRowb "TraceAligner$Net" prog_3_method_4_code am_big) = true := by decide +kernel
def r_NT_codeOf : List am_Row := r_NT_codeOf_0
def E_NT_codeOf : am_E := (am_G0, (F_NT, N_NT, C_NT), m_NT_codeOf, r_NT_codeOf)
theorem e_NT_codeOf : am_okE E_NT_codeOf := ⟨am_big_good, okT_NT, am_okRow_of ok_NT_codeOf_0⟩
set_option maxRecDepth 100000 in
def r_NT_codeBehind_0 : List am_Row := [(0, .iload_n 1, 1, 0, .null), (1, .istore_n 3, 2, 0, .null), (2, .iconst 0, 3, 0, .int (nI 0)), (3, .istore 4, 5, 0, .null), (5, .iload 4, 7, 0, .null), (7, .aload_n 0, 8, 0, .null), (8, .getfield 30, 11, 0, .null), (11, .if_icmp .ge 93, 14, 104, .null), (14, .aload_n 0, 15, 0, .null), (15, .getfield 18, 18, 0, .null), (18, .iload_n 2, 19, 0, .null), (19, .iaload, 20, 0, .null), (20, .iload 4, 22, 0, .null), (22, .invokestatic 37, 25, 0, .null), (25, .ifCond .eq 7, 28, 32, .null), (28, .iconst 1, 29, 0, .int (nI 1)), (29, .goto 4, 32, 33, .null), (32, .iconst 0, 33, 0, .int (nI 0)), (33, .istore 5, 35, 0, .null), (35, .aload_n 0, 36, 0, .null), (36, .getfield 21, 39, 0, .null), (39, .iload_n 2, 40, 0, .null), (40, .iaload, 41, 0, .null), (41, .iload 4, 43, 0, .null), (43, .invokestatic 37, 46, 0, .null), (46, .ifCond .eq 7, 49, 53, .null), (49, .iconst 1, 50, 0, .int (nI 1)), (50, .goto 4, 53, 54, .null), (53, .iconst 0, 54, 0, .int (nI 0)), (54, .istore 6, 56, 0, .null), (56, .iload_n 1, 57, 0, .null), (57, .iload 4, 59, 0, .null), (59, .invokestatic 41, 62, 0, .null), (62, .istore 7, 64, 0, .null), (64, .iload 7, 66, 0, .null), (66, .iload 5, 68, 0, .null), (68, .if_icmp .lt 15, 71, 83, .null), (71, .iload 7, 73, 0, .null), (73, .iload 5, 75, 0, .null), (75, .isub, 76, 0, .null)]
set_option maxRecDepth 100000 in
theorem ok_NT_codeBehind_0 : r_NT_codeBehind_0.all (am_okRowb "TraceAligner$Net" prog_3_method_5_code am_big) = true := by decide +kernel
set_option maxRecDepth 100000 in
def r_NT_codeBehind_1 : List am_Row := [(76, .iload 6, 78, 0, .null), (78, .iadd, 79, 0, .null), (79, .iconst 3, 80, 0, .int (nI 3)), (80, .if_icmp .le 5, 83, 85, .null), (83, .iconst (-1), 84, 0, .int (-1)), (84, .ireturn, 85, 0, .null), (85, .iload_n 3, 86, 0, .null), (86, .iload 6, 88, 0, .null), (88, .iload 5, 90, 0, .null), (90, .isub, 91, 0, .null), (91, .iconst 2, 92, 0, .int (nI 2)), (92, .iload 4, 94, 0, .null), (94, .imul, 95, 0, .null), (95, .ishl, 96, 0, .null), (96, .iadd, 97, 0, .null), (97, .istore_n 3, 98, 0, .null), (98, .iinc 4 1, 101, 0, .int (nI 1)), (101, .goto (-96), 104, 5, .null), (104, .iload_n 3, 105, 0, .null), (105, .ireturn, 106, 0, .null)]
set_option maxRecDepth 100000 in
theorem ok_NT_codeBehind_1 : r_NT_codeBehind_1.all (am_okRowb "TraceAligner$Net" prog_3_method_5_code am_big) = true := by decide +kernel
def r_NT_codeBehind : List am_Row := r_NT_codeBehind_0 ++ (r_NT_codeBehind_1)
def E_NT_codeBehind : am_E := (am_G0, (F_NT, N_NT, C_NT), m_NT_codeBehind, r_NT_codeBehind)
theorem e_NT_codeBehind : am_okE E_NT_codeBehind := ⟨am_big_good, okT_NT, am_okRow_of (am_all_app ok_NT_codeBehind_0 ok_NT_codeBehind_1)⟩
set_option maxRecDepth 100000 in
def r_PF_init_0 : List am_Row := [(0, .aload_n 0, 1, 0, .null), (1, .invokespecial 3, 4, 0, .null), (4, .aload_n 0, 5, 0, .null), (5, .bipush 10, 7, 0, .int (nI 10)), (7, .newarray .int, 9, 0, .null), (9, .putfield 9, 12, 0, .null), (12, .aload_n 0, 13, 0, .null), (13, .bipush 9, 15, 0, .int (nI 9)), (15, .sipush 200, 18, 0, .int (nI 200)), (18, .multianewarray 15 2, 22, 0, .null), (22, .putfield 17, 25, 0, .null), (25, .aload_n 0, 26, 0, .null), (26, .aload_n 1, 27, 0, .null), (27, .putfield 20, 30, 0, .null), (30, .aload_n 0, 31, 0, .null), (31, .aload_n 2, 32, 0, .null), (32, .putfield 24, 35, 0, .null), (35, .aload_n 0, 36, 0, .null), (36, .aload_n 3, 37, 0, .null), (37, .putfield 28, 40, 0, .null), (40, .return_, 41, 0, .null)]
set_option maxRecDepth 100000 in
theorem ok_PF_init_0 : r_PF_init_0.all (am_okRowb "TraceAligner$PathFinder" prog_4_method_1_code am_big) = true := by decide +kernel
def r_PF_init : List am_Row := r_PF_init_0
def E_PF_init : am_E := (am_G0, (F_PF, N_PF, C_PF), m_PF_init, r_PF_init)
theorem e_PF_init : am_okE E_PF_init := ⟨am_big_good, okT_PF, am_okRow_of ok_PF_init_0⟩
set_option maxRecDepth 100000 in
def r_PF_stepsToLast_0 : List am_Row := [(0, .aload_n 0, 1, 0, .null), (1, .getfield 9, 4, 0, .null), (4, .iconst 1, 5, 0, .int (nI 1)), (5, .invokestatic 31, 8, 0, .null), (8, .aload_n 0, 9, 0, .null), (9, .aload_n 0, 10, 0, .null), (10, .getfield 17, 13, 0, .null), (13, .iconst 0, 14, 0, .int (nI 0)), (14, .aaload, 15, 0, .null), (15, .invokevirtual 37, 18, 0, .null), (18, .aload_n 0, 19, 0, .null), (19, .getfield 17, 22, 0, .null), (22, .iconst 0, 23, 0, .int (nI 0)), (23, .aaload, 24, 0, .null), (24, .iload_n 1, 25, 0, .null), (25, .iaload, 26, 0, .null), (26, .ldc 41, 28, 0, .int (nI 1073741824)), (28, .if_icmp .ne 7, 31, 35, .null), (31, .iconst (-1), 32, 0, .int (-1)), (32, .goto 11, 35, 43, .null), (35, .aload_n 0, 36, 0, .null), (36, .getfield 17, 39, 0, .null), (39, .iconst 0, 40, 0, .int (nI 0)), (40, .aaload, 41, 0, .null), (41, .iload_n 1, 42, 0, .null), (42, .iaload, 43, 0, .null), (43, .ireturn, 44, 0, .null)]
set_option maxRecDepth 100000 in
theorem ok_PF_stepsToLast_0 : r_PF_stepsToLast_0.all (am_okRowb "TraceAligner$PathFinder" prog_4_method_2_code am_big) = true := by decide +kernel
def r_PF_stepsToLast : List am_Row := r_PF_stepsToLast_0
def E_PF_stepsToLast : am_E := (am_G0, (F_PF, N_PF, C_PF), m_PF_stepsToLast, r_PF_stepsToLast)
theorem e_PF_stepsToLast : am_okE E_PF_stepsToLast := ⟨am_big_good, okT_PF, am_okRow_of ok_PF_stepsToLast_0⟩
set_option maxRecDepth 100000 in
def r_PF_align_0 : List am_Row := [(0, .aload_n 1, 1, 0, .null), (1, .getfield 42, 4, 0, .null), (4, .ifCond .eq 4, 7, 8, .null), (7, .return_, 8, 0, .null), (8, .aload_n 1, 9, 0, .null), (9, .iconst 1, 10, 0, .int (nI 1)), (10, .putfield 42, 13, 0, .null), (13, .aload_n 0, 14, 0, .null), (14, .getfield 24, 17, 0, .null), (17, .getfield 48, 20, 0, .null), (20, .iconst (-1), 21, 0, .int (-1)), (21, .if_icmp .ne 8, 24, 29, .null), (24, .aload_n 1, 25, 0, .null), (25, .invokevirtual 54, 28, 0, .null), (28, .return_, 29, 0, .null), (29, .aload_n 0, 30, 0, .null), (30, .aload_n 1, 31, 0, .null), (31, .invokevirtual 57, 34, 0, .null), (34, .aload_n 1, 35, 0, .null), (35, .aload_n 0, 36, 0, .null), (36, .getfield 17, 39, 0, .null), (39, .iconst 0, 40, 0, .int (nI 0)), (40, .aaload, 41, 0, .null), (41, .iconst 0, 42, 0, .int (nI 0)), (42, .iaload, 43, 0, .null), (43, .sipush 4096, 46, 0, .int (nI 4096)), (46, .idiv, 47, 0, .null), (47, .putfield 61, 50, 0, .null), (50, .aload_n 1, 51, 0, .null), (51, .aload_n 0, 52, 0, .null), (52, .getfield 17, 55, 0, .null), (55, .iconst 0, 56, 0, .int (nI 0)), (56, .aaload, 57, 0, .null), (57, .iconst 0, 58, 0, .int (nI 0)), (58, .iaload, 59, 0, .null), (59, .sipush 4096, 62, 0, .int (nI 4096)), (62, .irem, 63, 0, .null), (63, .putfield 64, 66, 0, .null), (66, .aload_n 1, 67, 0, .null), (67, .aload_n 0, 68, 0, .null)]
set_option maxRecDepth 100000 in
theorem ok_PF_align_0 : r_PF_align_0.all (am_okRowb "TraceAligner$PathFinder" prog_4_method_3_code am_big) = true := by decide +kernel
set_option maxRecDepth 100000 in
def r_PF_align_1 : List am_Row := [(68, .getfield 17, 71, 0, .null), (71, .aload_n 1, 72, 0, .null), (72, .getfield 67, 75, 0, .null), (75, .aaload, 76, 0, .null), (76, .iconst 0, 77, 0, .int (nI 0)), (77, .iaload, 78, 0, .null), (78, .sipush 4096, 81, 0, .int (nI 4096)), (81, .idiv, 82, 0, .null), (82, .putfield 70, 85, 0, .null), (85, .iconst 0, 86, 0, .int (nI 0)), (86, .istore_n 2, 87, 0, .null), (87, .iload_n 2, 88, 0, .null), (88, .aload_n 1, 89, 0, .null), (89, .getfield 67, 92, 0, .null), (92, .if_icmp .ge 29, 95, 121, .null), (95, .aload_n 1, 96, 0, .null), (96, .dup, 97, 0, .null), (97, .getfield 70, 100, 0, .null), (100, .aload_n 0, 101, 0, .null), (101, .getfield 28, 104, 0, .null), (104, .aload_n 1, 105, 0, .null), (105, .getfield 73, 108, 0, .null), (108, .iload_n 2, 109, 0, .null), (109, .iaload, 110, 0, .null), (110, .iaload, 111, 0, .null), (111, .iadd, 112, 0, .null), (112, .putfield 70, 115, 0, .null), (115, .iinc 2 1, 118, 0, .int (nI 1)), (118, .goto (-31), 121, 87, .null), (121, .aload_n 1, 122, 0, .null), (122, .aload_n 1, 123, 0, .null), (123, .getfield 64, 126, 0, .null), (126, .invokevirtual 76, 129, 0, .null), (129, .aload_n 0, 130, 0, .null), (130, .aload_n 1, 131, 0, .null), (131, .invokevirtual 80, 134, 0, .null), (134, .return_, 135, 0, .null)]
set_option maxRecDepth 100000 in
theorem ok_PF_align_1 : r_PF_align_1.all (am_okRowb "TraceAligner$PathFinder" prog_4_method_3_code am_big) = true := by decide +kernel
def r_PF_align : List am_Row := r_PF_align_0 ++ (r_PF_align_1)
def E_PF_align : am_E := (am_G0, (F_PF, N_PF, C_PF), m_PF_align, r_PF_align)
theorem e_PF_align : am_okE E_PF_align := ⟨am_big_good, okT_PF, am_okRow_of (am_all_app ok_PF_align_0 ok_PF_align_1)⟩
set_option maxRecDepth 100000 in
def r_PF_weighAll_0 : List am_Row := [(0, .iconst 0, 1, 0, .int (nI 0)), (1, .istore_n 2, 2, 0, .null), (2, .iload_n 2, 3, 0, .null), (3, .aload_n 0, 4, 0, .null), (4, .getfield 20, 7, 0, .null), (7, .getfield 83, 10, 0, .null), (10, .if_icmp .ge 30, 13, 40, .null), (13, .aload_n 0, 14, 0, .null), (14, .getfield 9, 17, 0, .null), (17, .iload_n 2, 18, 0, .null), (18, .aload_n 0, 19, 0, .null), (19, .getfield 20, 22, 0, .null), (22, .getfield 88, 25, 0, .null), (25, .iload_n 2, 26, 0, .null), (26, .iaload, 27, 0, .null), (27, .sipush 4096, 30, 0, .int (nI 4096)), (30, .imul, 31, 0, .null), (31, .iconst 1, 32, 0, .int (nI 1)), (32, .iadd, 33, 0, .null), (33, .iastore, 34, 0, .null), (34, .iinc 2 1, 37, 0, .int (nI 1)), (37, .goto (-35), 40, 2, .null), (40, .aload_n 0, 41, 0, .null), (41, .aload_n 0, 42, 0, .null), (42, .getfield 17, 45, 0, .null), (45, .aload_n 1, 46, 0, .null), (46, .getfield 67, 49, 0, .null), (49, .aaload, 50, 0, .null), (50, .invokevirtual 37, 53, 0, .null), (53, .aload_n 1, 54, 0, .null), (54, .getfield 67, 57, 0, .null), (57, .iconst 1, 58, 0, .int (nI 1)), (58, .isub, 59, 0, .null), (59, .istore_n 2, 60, 0, .null), (60, .iload_n 2, 61, 0, .null), (61, .ifCond .lt 33, 64, 94, .null), (64, .aload_n 0, 65, 0, .null), (65, .aload_n 0, 66, 0, .null), (66, .getfield 17, 69, 0, .null), (69, .iload_n 2, 70, 0, .null)]
set_option maxRecDepth 100000 in
theorem ok_PF_weighAll_0 : r_PF_weighAll_0.all (am_okRowb "TraceAligner$PathFinder" prog_4_method_4_code am_big) = true := by decide +kernel
set_option maxRecDepth 100000 in
def r_PF_weighAll_1 : List am_Row := [(70, .aaload, 71, 0, .null), (71, .aload_n 0, 72, 0, .null), (72, .getfield 17, 75, 0, .null), (75, .iload_n 2, 76, 0, .null), (76, .iconst 1, 77, 0, .int (nI 1)), (77, .iadd, 78, 0, .null), (78, .aaload, 79, 0, .null), (79, .aload_n 1, 80, 0, .null), (80, .getfield 73, 83, 0, .null), (83, .iload_n 2, 84, 0, .null), (84, .iaload, 85, 0, .null), (85, .invokevirtual 91, 88, 0, .null), (88, .iinc 2 (-1), 91, 0, .int (-1)), (91, .goto (-31), 94, 60, .null), (94, .return_, 95, 0, .null)]
set_option maxRecDepth 100000 in
theorem ok_PF_weighAll_1 : r_PF_weighAll_1.all (am_okRowb "TraceAligner$PathFinder" prog_4_method_4_code am_big) = true := by decide +kernel
def r_PF_weighAll : List am_Row := r_PF_weighAll_0 ++ (r_PF_weighAll_1)
def E_PF_weighAll : am_E := (am_G0, (F_PF, N_PF, C_PF), m_PF_weighAll, r_PF_weighAll)
theorem e_PF_weighAll : am_okE E_PF_weighAll := ⟨am_big_good, okT_PF, am_okRow_of (am_all_app ok_PF_weighAll_0 ok_PF_weighAll_1)⟩
set_option maxRecDepth 100000 in
def r_PF_weighEnd_0 : List am_Row := [(0, .aload_n 1, 1, 0, .null), (1, .ldc 41, 3, 0, .int (nI 1073741824)), (3, .invokestatic 31, 6, 0, .null), (6, .aload_n 0, 7, 0, .null), (7, .getfield 24, 10, 0, .null), (10, .getfield 48, 13, 0, .null), (13, .iconst (-1), 14, 0, .int (-1)), (14, .if_icmp .eq 13, 17, 27, .null), (17, .aload_n 1, 18, 0, .null), (18, .aload_n 0, 19, 0, .null), (19, .getfield 24, 22, 0, .null), (22, .getfield 48, 25, 0, .null), (25, .iconst 0, 26, 0, .int (nI 0)), (26, .iastore, 27, 0, .null), (27, .aload_n 0, 28, 0, .null), (28, .getfield 24, 31, 0, .null), (31, .aload_n 1, 32, 0, .null), (32, .aload_n 0, 33, 0, .null), (33, .getfield 9, 36, 0, .null), (36, .invokevirtual 95, 39, 0, .null), (39, .return_, 40, 0, .null)]
set_option maxRecDepth 100000 in
theorem ok_PF_weighEnd_0 : r_PF_weighEnd_0.all (am_okRowb "TraceAligner$PathFinder" prog_4_method_5_code am_big) = true := by decide +kernel
def r_PF_weighEnd : List am_Row := r_PF_weighEnd_0
def E_PF_weighEnd : am_E := (am_G0, (F_PF, N_PF, C_PF), m_PF_weighEnd, r_PF_weighEnd)
theorem e_PF_weighEnd : am_okE E_PF_weighEnd := ⟨am_big_good, okT_PF, am_okRow_of ok_PF_weighEnd_0⟩
set_option maxRecDepth 100000 in
def r_PF_weighEvent_0 : List am_Row := [(0, .iconst 0, 1, 0, .int (nI 0)), (1, .istore 4, 3, 0, .null), (3, .iload 4, 5, 0, .null), (5, .aload_n 0, 6, 0, .null), (6, .getfield 24, 9, 0, .null), (9, .getfield 99, 12, 0, .null), (12, .if_icmp .ge 99, 15, 111, .null), (15, .ldc 41, 17, 0, .int (nI 1073741824)), (17, .aload_n 2, 18, 0, .null), (18, .iload 4, 20, 0, .null), (20, .iaload, 21, 0, .null), (21, .aload_n 0, 22, 0, .null), (22, .iload_n 3, 23, 0, .null), (23, .invokevirtual 100, 26, 0, .null), (26, .iadd, 27, 0, .null), (27, .invokestatic 104, 30, 0, .null), (30, .istore 5, 32, 0, .null), (32, .iconst 0, 33, 0, .int (nI 0)), (33, .istore 6, 35, 0, .null), (35, .iload 6, 37, 0, .null), (37, .aload_n 0, 38, 0, .null), (38, .getfield 20, 41, 0, .null), (41, .getfield 83, 44, 0, .null), (44, .if_icmp .ge 55, 47, 99, .null), (47, .aload_n 0, 48, 0, .null), (48, .getfield 24, 51, 0, .null), (51, .iload 4, 53, 0, .null), (53, .iload 6, 55, 0, .null), (55, .invokevirtual 110, 58, 0, .null), (58, .istore 7, 60, 0, .null), (60, .aload_n 0, 61, 0, .null), (61, .getfield 20, 64, 0, .null), (64, .getfield 113, 67, 0, .null), (67, .iload 6, 69, 0, .null), (69, .iaload, 70, 0, .null), (70, .iload_n 3, 71, 0, .null), (71, .if_icmp .ne 22, 74, 93, .null), (74, .iload 7, 76, 0, .null), (76, .iconst (-1), 77, 0, .int (-1)), (77, .if_icmp .eq 16, 80, 93, .null)]
set_option maxRecDepth 100000 in
theorem ok_PF_weighEvent_0 : r_PF_weighEvent_0.all (am_okRowb "TraceAligner$PathFinder" prog_4_method_6_code am_big) = true := by decide +kernel
set_option maxRecDepth 100000 in
def r_PF_weighEvent_1 : List am_Row := [(80, .iload 5, 82, 0, .null), (82, .aload_n 2, 83, 0, .null), (83, .iload 7, 85, 0, .null), (85, .iaload, 86, 0, .null), (86, .iconst 1, 87, 0, .int (nI 1)), (87, .iadd, 88, 0, .null), (88, .invokestatic 104, 91, 0, .null), (91, .istore 5, 93, 0, .null), (93, .iinc 6 1, 96, 0, .int (nI 1)), (96, .goto (-61), 99, 35, .null), (99, .aload_n 1, 100, 0, .null), (100, .iload 4, 102, 0, .null), (102, .iload 5, 104, 0, .null), (104, .iastore, 105, 0, .null), (105, .iinc 4 1, 108, 0, .int (nI 1)), (108, .goto (-105), 111, 3, .null), (111, .aload_n 0, 112, 0, .null), (112, .getfield 24, 115, 0, .null), (115, .aload_n 1, 116, 0, .null), (116, .aload_n 0, 117, 0, .null), (117, .getfield 9, 120, 0, .null), (120, .invokevirtual 95, 123, 0, .null), (123, .return_, 124, 0, .null)]
set_option maxRecDepth 100000 in
theorem ok_PF_weighEvent_1 : r_PF_weighEvent_1.all (am_okRowb "TraceAligner$PathFinder" prog_4_method_6_code am_big) = true := by decide +kernel
def r_PF_weighEvent : List am_Row := r_PF_weighEvent_0 ++ (r_PF_weighEvent_1)
def E_PF_weighEvent : am_E := (am_G0, (F_PF, N_PF, C_PF), m_PF_weighEvent, r_PF_weighEvent)
theorem e_PF_weighEvent : am_okE E_PF_weighEvent := ⟨am_big_good, okT_PF, am_okRow_of (am_all_app ok_PF_weighEvent_0 ok_PF_weighEvent_1)⟩
set_option maxRecDepth 100000 in
def r_PF_traceWeight_0 : List am_Row := [(0, .aload_n 0, 1, 0, .null), (1, .getfield 28, 4, 0, .null), (4, .iload_n 1, 5, 0, .null), (5, .iaload, 6, 0, .null), (6, .sipush 4096, 9, 0, .int (nI 4096)), (9, .imul, 10, 0, .null), (10, .iconst 1, 11, 0, .int (nI 1)), (11, .iadd, 12, 0, .null), (12, .ireturn, 13, 0, .null)]
set_option maxRecDepth 100000 in
theorem ok_PF_traceWeight_0 : r_PF_traceWeight_0.all (am_okRowb "TraceAligner$PathFinder" prog_4_method_7_code am_big) = true := by decide +kernel
def r_PF_traceWeight : List am_Row := r_PF_traceWeight_0
def E_PF_traceWeight : am_E := (am_G0, (F_PF, N_PF, C_PF), m_PF_traceWeight, r_PF_traceWeight)
theorem e_PF_traceWeight : am_okE E_PF_traceWeight := ⟨am_big_good, okT_PF, am_okRow_of ok_PF_traceWeight_0⟩
set_option maxRecDepth 100000 in
def r_PF_walk_0 : List am_Row := [(0, .iconst 0, 1, 0, .int (nI 0)), (1, .istore_n 2, 2, 0, .null), (2, .iconst 0, 3, 0, .int (nI 0)), (3, .istore_n 3, 4, 0, .null), (4, .iconst 0, 5, 0, .int (nI 0)), (5, .istore 4, 7, 0, .null), (7, .iload 4, 9, 0, .null), (9, .aload_n 1, 10, 0, .null), (10, .getfield 64, 13, 0, .null), (13, .if_icmp .ge 63, 16, 76, .null), (16, .aload_n 0, 17, 0, .null), (17, .aload_n 1, 18, 0, .null), (18, .iload_n 2, 19, 0, .null), (19, .iload_n 3, 20, 0, .null), (20, .invokevirtual 114, 23, 0, .null), (23, .istore 5, 25, 0, .null), (25, .iload 5, 27, 0, .null), (27, .invokestatic 118, 30, 0, .null), (30, .istore 6, 32, 0, .null), (32, .aload_n 1, 33, 0, .null), (33, .getfield 121, 36, 0, .null), (36, .iload 4, 38, 0, .null), (38, .iload 5, 40, 0, .null), (40, .iastore, 41, 0, .null), (41, .iload 5, 43, 0, .null), (43, .invokestatic 124, 46, 0, .null), (46, .iconst (-1), 47, 0, .int (-1)), (47, .if_icmp .eq 6, 50, 53, .null), (50, .iinc 2 1, 53, 0, .int (nI 1)), (53, .iload 6, 55, 0, .null), (55, .iconst (-1), 56, 0, .int (-1)), (56, .if_icmp .eq 14, 59, 70, .null), (59, .aload_n 0, 60, 0, .null), (60, .getfield 24, 63, 0, .null), (63, .iload_n 3, 64, 0, .null), (64, .iload 6, 66, 0, .null), (66, .invokevirtual 110, 69, 0, .null), (69, .istore_n 3, 70, 0, .null), (70, .iinc 4 1, 73, 0, .int (nI 1)), (73, .goto (-66), 76, 7, .null)]
set_option maxRecDepth 100000 in
theorem ok_PF_walk_0 : r_PF_walk_0.all (am_okRowb "TraceAligner$PathFinder" prog_4_method_8_code am_big) = true := by decide +kernel
set_option maxRecDepth 100000 in
def r_PF_walk_1 : List am_Row := [(76, .return_, 77, 0, .null)]
set_option maxRecDepth 100000 in
theorem ok_PF_walk_1 : r_PF_walk_1.all (am_okRowb "TraceAligner$PathFinder" prog_4_method_8_code am_big) = true := by decide +kernel
def r_PF_walk : List am_Row := r_PF_walk_0 ++ (r_PF_walk_1)
def E_PF_walk : am_E := (am_G0, (F_PF, N_PF, C_PF), m_PF_walk, r_PF_walk)
theorem e_PF_walk : am_okE E_PF_walk := ⟨am_big_good, okT_PF, am_okRow_of (am_all_app ok_PF_walk_0 ok_PF_walk_1)⟩
set_option maxRecDepth 100000 in
def r_PF_bestMove_0 : List am_Row := [(0, .aload_n 0, 1, 0, .null), (1, .getfield 17, 4, 0, .null), (4, .iload_n 2, 5, 0, .null), (5, .aaload, 6, 0, .null), (6, .iload_n 3, 7, 0, .null), (7, .iaload, 8, 0, .null), (8, .istore 4, 10, 0, .null), (10, .iload_n 2, 11, 0, .null), (11, .aload_n 1, 12, 0, .null), (12, .getfield 67, 15, 0, .null), (15, .if_icmp .ge 122, 18, 137, .null), (18, .aload_n 1, 19, 0, .null), (19, .getfield 73, 22, 0, .null), (22, .iload_n 2, 23, 0, .null), (23, .iaload, 24, 0, .null), (24, .istore 5, 26, 0, .null), (26, .aload_n 0, 27, 0, .null), (27, .getfield 17, 30, 0, .null), (30, .iload_n 2, 31, 0, .null), (31, .iconst 1, 32, 0, .int (nI 1)), (32, .iadd, 33, 0, .null), (33, .aaload, 34, 0, .null), (34, .astore 6, 36, 0, .null), (36, .iconst 0, 37, 0, .int (nI 0)), (37, .istore 7, 39, 0, .null), (39, .iload 7, 41, 0, .null), (41, .aload_n 0, 42, 0, .null), (42, .getfield 20, 45, 0, .null), (45, .getfield 83, 48, 0, .null), (48, .if_icmp .ge 64, 51, 112, .null), (51, .aload_n 0, 52, 0, .null), (52, .getfield 24, 55, 0, .null), (55, .iload_n 3, 56, 0, .null), (56, .iload 7, 58, 0, .null), (58, .invokevirtual 110, 61, 0, .null), (61, .istore 8, 63, 0, .null), (63, .aload_n 0, 64, 0, .null), (64, .getfield 20, 67, 0, .null), (67, .getfield 113, 70, 0, .null), (70, .iload 7, 72, 0, .null)]
set_option maxRecDepth 100000 in
theorem ok_PF_bestMove_0 : r_PF_bestMove_0.all (am_okRowb "TraceAligner$PathFinder" prog_4_method_9_code am_big) = true := by decide +kernel
set_option maxRecDepth 100000 in
def r_PF_bestMove_1 : List am_Row := [(72, .iaload, 73, 0, .null), (73, .iload 5, 75, 0, .null), (75, .if_icmp .ne 31, 78, 106, .null), (78, .iload 8, 80, 0, .null), (80, .iconst (-1), 81, 0, .int (-1)), (81, .if_icmp .eq 25, 84, 106, .null), (84, .aload 6, 86, 0, .null), (86, .iload 8, 88, 0, .null), (88, .iaload, 89, 0, .null), (89, .iconst 1, 90, 0, .int (nI 1)), (90, .iadd, 91, 0, .null), (91, .iload 4, 93, 0, .null), (93, .if_icmp .ne 13, 96, 106, .null), (96, .iconst 0, 97, 0, .int (nI 0)), (97, .iload 7, 99, 0, .null), (99, .iload 5, 101, 0, .null), (101, .iload_n 3, 102, 0, .null), (102, .invokestatic 127, 105, 0, .null), (105, .ireturn, 106, 0, .null), (106, .iinc 7 1, 109, 0, .int (nI 1)), (109, .goto (-70), 112, 39, .null), (112, .aload 6, 114, 0, .null), (114, .iload_n 3, 115, 0, .null), (115, .iaload, 116, 0, .null), (116, .aload_n 0, 117, 0, .null), (117, .iload 5, 119, 0, .null), (119, .invokevirtual 100, 122, 0, .null), (122, .iadd, 123, 0, .null), (123, .iload 4, 125, 0, .null), (125, .if_icmp .ne 12, 128, 137, .null), (128, .iconst 1, 129, 0, .int (nI 1)), (129, .iconst (-1), 130, 0, .int (-1)), (130, .iload 5, 132, 0, .null), (132, .iload_n 3, 133, 0, .null), (133, .invokestatic 127, 136, 0, .null), (136, .ireturn, 137, 0, .null), (137, .iconst 2, 138, 0, .int (nI 2)), (138, .aload_n 0, 139, 0, .null), (139, .aload_n 0, 140, 0, .null), (140, .getfield 17, 143, 0, .null)]
set_option maxRecDepth 100000 in
theorem ok_PF_bestMove_1 : r_PF_bestMove_1.all (am_okRowb "TraceAligner$PathFinder" prog_4_method_9_code am_big) = true := by decide +kernel
set_option maxRecDepth 100000 in
def r_PF_bestMove_2 : List am_Row := [(143, .iload_n 2, 144, 0, .null), (144, .aaload, 145, 0, .null), (145, .iload_n 3, 146, 0, .null), (146, .invokevirtual 131, 149, 0, .null), (149, .iconst (-1), 150, 0, .int (-1)), (150, .iload_n 3, 151, 0, .null), (151, .invokestatic 127, 154, 0, .null), (154, .ireturn, 155, 0, .null)]
set_option maxRecDepth 100000 in
theorem ok_PF_bestMove_2 : r_PF_bestMove_2.all (am_okRowb "TraceAligner$PathFinder" prog_4_method_9_code am_big) = true := by decide +kernel
def r_PF_bestMove : List am_Row := r_PF_bestMove_0 ++ (r_PF_bestMove_1 ++ (r_PF_bestMove_2))
def E_PF_bestMove : am_E := (am_G0, (F_PF, N_PF, C_PF), m_PF_bestMove, r_PF_bestMove)
theorem e_PF_bestMove : am_okE E_PF_bestMove := ⟨am_big_good, okT_PF, am_okRow_of (am_all_app ok_PF_bestMove_0 (am_all_app ok_PF_bestMove_1 ok_PF_bestMove_2))⟩
set_option maxRecDepth 100000 in
def r_PF_bestModelTransition_0 : List am_Row := [(0, .iconst 0, 1, 0, .int (nI 0)), (1, .istore_n 3, 2, 0, .null), (2, .iload_n 3, 3, 0, .null), (3, .aload_n 0, 4, 0, .null), (4, .getfield 20, 7, 0, .null), (7, .getfield 83, 10, 0, .null), (10, .if_icmp .ge 45, 13, 55, .null), (13, .aload_n 0, 14, 0, .null), (14, .getfield 24, 17, 0, .null), (17, .iload_n 2, 18, 0, .null), (18, .iload_n 3, 19, 0, .null), (19, .invokevirtual 110, 22, 0, .null), (22, .istore 4, 24, 0, .null), (24, .iload 4, 26, 0, .null), (26, .iconst (-1), 27, 0, .int (-1)), (27, .if_icmp .eq 22, 30, 49, .null), (30, .aload_n 1, 31, 0, .null), (31, .iload 4, 33, 0, .null), (33, .iaload, 34, 0, .null), (34, .aload_n 0, 35, 0, .null), (35, .getfield 9, 38, 0, .null), (38, .iload_n 3, 39, 0, .null), (39, .iaload, 40, 0, .null), (40, .iadd, 41, 0, .null), (41, .aload_n 1, 42, 0, .null), (42, .iload_n 2, 43, 0, .null), (43, .iaload, 44, 0, .null), (44, .if_icmp .ne 5, 47, 49, .null), (47, .iload_n 3, 48, 0, .null), (48, .ireturn, 49, 0, .null), (49, .iinc 3 1, 52, 0, .int (nI 1)), (52, .goto (-50), 55, 2, .null), (55, .iconst (-1), 56, 0, .int (-1)), (56, .ireturn, 57, 0, .null)]
set_option maxRecDepth 100000 in
theorem ok_PF_bestModelTransition_0 : r_PF_bestModelTransition_0.all (am_okRowb "TraceAligner$PathFinder" prog_4_method_10_code am_big) = true := by decide +kernel
def r_PF_bestModelTransition : List am_Row := r_PF_bestModelTransition_0
def E_PF_bestModelTransition : am_E := (am_G0, (F_PF, N_PF, C_PF), m_PF_bestModelTransition, r_PF_bestModelTransition)
theorem e_PF_bestModelTransition : am_okE E_PF_bestModelTransition := ⟨am_big_good, okT_PF, am_okRow_of ok_PF_bestModelTransition_0⟩
set_option maxRecDepth 100000 in
def r_TR_init_0 : List am_Row := [(0, .aload_n 0, 1, 0, .null), (1, .invokespecial 3, 4, 0, .null), (4, .aload_n 0, 5, 0, .null), (5, .bipush 8, 7, 0, .int (nI 8)), (7, .newarray .int, 9, 0, .null), (9, .putfield 9, 12, 0, .null), (12, .aload_n 0, 13, 0, .null), (13, .bipush 16, 15, 0, .int (nI 16)), (15, .newarray .int, 17, 0, .null), (17, .putfield 15, 20, 0, .null), (20, .return_, 21, 0, .null)]
set_option maxRecDepth 100000 in
theorem ok_TR_init_0 : r_TR_init_0.all (am_okRowb "TraceAligner$Trace" prog_5_method_1_code am_big) = true := by decide +kernel
def r_TR_init : List am_Row := r_TR_init_0
def E_TR_init : am_E := (am_G0, (F_TR, N_TR, C_TR), m_TR_init, r_TR_init)
theorem e_TR_init : am_okE E_TR_init := ⟨am_big_good, okT_TR, am_okRow_of ok_TR_init_0⟩
set_option maxRecDepth 100000 in
def r_TR_take_0 : List am_Row := [(0, .aload_n 1, 1, 0, .null), (1, .iconst 0, 2, 0, .int (nI 0)), (2, .aload_n 0, 3, 0, .null), (3, .getfield 9, 6, 0, .null), (6, .iconst 0, 7, 0, .int (nI 0)), (7, .iload_n 2, 8, 0, .null), (8, .invokestatic 18, 11, 0, .null), (11, .aload_n 0, 12, 0, .null), (12, .iload_n 2, 13, 0, .null), (13, .putfield 24, 16, 0, .null), (16, .aload_n 0, 17, 0, .null), (17, .iload_n 3, 18, 0, .null), (18, .putfield 28, 21, 0, .null), (21, .aload_n 0, 22, 0, .null), (22, .iconst 0, 23, 0, .int (nI 0)), (23, .putfield 31, 26, 0, .null), (26, .return_, 27, 0, .null)]
set_option maxRecDepth 100000 in
theorem ok_TR_take_0 : r_TR_take_0.all (am_okRowb "TraceAligner$Trace" prog_5_method_2_code am_big) = true := by decide +kernel
def r_TR_take : List am_Row := r_TR_take_0
def E_TR_take : am_E := (am_G0, (F_TR, N_TR, C_TR), m_TR_take, r_TR_take)
theorem e_TR_take : am_okE E_TR_take := ⟨am_big_good, okT_TR, am_okRow_of ok_TR_take_0⟩
set_option maxRecDepth 100000 in
def r_TR_setNoAlignment_0 : List am_Row := [(0, .aload_n 0, 1, 0, .null), (1, .iconst (-1), 2, 0, .int (-1)), (2, .putfield 35, 5, 0, .null), (5, .aload_n 0, 6, 0, .null), (6, .iconst (-1), 7, 0, .int (-1)), (7, .putfield 38, 10, 0, .null), (10, .aload_n 0, 11, 0, .null), (11, .iconst (-1), 12, 0, .int (-1)), (12, .putfield 41, 15, 0, .null), (15, .return_, 16, 0, .null)]
set_option maxRecDepth 100000 in
theorem ok_TR_setNoAlignment_0 : r_TR_setNoAlignment_0.all (am_okRowb "TraceAligner$Trace" prog_5_method_4_code am_big) = true := by decide +kernel
def r_TR_setNoAlignment : List am_Row := r_TR_setNoAlignment_0
def E_TR_setNoAlignment : am_E := (am_G0, (F_TR, N_TR, C_TR), m_TR_setNoAlignment, r_TR_setNoAlignment)
theorem e_TR_setNoAlignment : am_okE E_TR_setNoAlignment := ⟨am_big_good, okT_TR, am_okRow_of ok_TR_setNoAlignment_0⟩
set_option maxRecDepth 100000 in
def r_TR_makeRoom_0 : List am_Row := [(0, .iload_n 1, 1, 0, .null), (1, .aload_n 0, 2, 0, .null), (2, .getfield 15, 5, 0, .null), (5, .arraylength, 6, 0, .null), (6, .if_icmp .le 20, 9, 26, .null), (9, .aload_n 0, 10, 0, .null), (10, .iload_n 1, 11, 0, .null), (11, .iconst 2, 12, 0, .int (nI 2)), (12, .aload_n 0, 13, 0, .null), (13, .getfield 15, 16, 0, .null), (16, .arraylength, 17, 0, .null), (17, .imul, 18, 0, .null), (18, .invokestatic 44, 21, 0, .null), (21, .newarray .int, 23, 0, .null), (23, .putfield 15, 26, 0, .null), (26, .return_, 27, 0, .null)]
set_option maxRecDepth 100000 in
theorem ok_TR_makeRoom_0 : r_TR_makeRoom_0.all (am_okRowb "TraceAligner$Trace" prog_5_method_5_code am_big) = true := by decide +kernel
def r_TR_makeRoom : List am_Row := r_TR_makeRoom_0
def E_TR_makeRoom : am_E := (am_G0, (F_TR, N_TR, C_TR), m_TR_makeRoom, r_TR_makeRoom)
theorem e_TR_makeRoom : am_okE E_TR_makeRoom := ⟨am_big_good, okT_TR, am_okRow_of ok_TR_makeRoom_0⟩
set_option maxRecDepth 100000 in
def r_TA_init_0 : List am_Row := [(0, .aload_n 0, 1, 0, .null), (1, .invokespecial 1, 4, 0, .null), (4, .aload_n 0, 5, 0, .null), (5, .new 7, 8, 0, .null), (8, .dup, 9, 0, .null), (9, .invokespecial 9, 12, 0, .null), (12, .putfield 10, 15, 0, .null), (15, .aload_n 0, 16, 0, .null), (16, .new 16, 19, 0, .null), (19, .dup, 20, 0, .null), (20, .aload_n 0, 21, 0, .null), (21, .getfield 10, 24, 0, .null), (24, .invokespecial 18, 27, 0, .null), (27, .putfield 21, 30, 0, .null), (30, .aload_n 0, 31, 0, .null), (31, .bipush 6, 33, 0, .int (nI 6)), (33, .newarray .int, 35, 0, .null), (35, .putfield 25, 38, 0, .null), (38, .aload_n 0, 39, 0, .null), (39, .getfield 25, 42, 0, .null), (42, .iconst 1, 43, 0, .int (nI 1)), (43, .invokestatic 29, 46, 0, .null), (46, .aload_n 0, 47, 0, .null), (47, .new 35, 50, 0, .null), (50, .dup, 51, 0, .null), (51, .aload_n 0, 52, 0, .null), (52, .getfield 10, 55, 0, .null), (55, .aload_n 0, 56, 0, .null), (56, .getfield 21, 59, 0, .null), (59, .aload_n 0, 60, 0, .null), (60, .getfield 25, 63, 0, .null), (63, .invokespecial 37, 66, 0, .null), (66, .putfield 40, 69, 0, .null), (69, .aload_n 0, 70, 0, .null), (70, .bipush 8, 72, 0, .int (nI 8)), (72, .newarray .int, 74, 0, .null), (74, .putfield 44, 77, 0, .null), (77, .aload_n 0, 78, 0, .null), (78, .bipush 8, 80, 0, .int (nI 8)), (80, .anewarray 47, 83, 0, .null)]
set_option maxRecDepth 100000 in
theorem ok_TA_init_0 : r_TA_init_0.all (am_okRowb "TraceAligner" prog_1_method_1_code am_big) = true := by decide +kernel
set_option maxRecDepth 100000 in
def r_TA_init_1 : List am_Row := [(83, .putfield 49, 86, 0, .null), (86, .iconst 0, 87, 0, .int (nI 0)), (87, .istore_n 1, 88, 0, .null), (88, .iload_n 1, 89, 0, .null), (89, .bipush 8, 91, 0, .int (nI 8)), (91, .if_icmp .ge 22, 94, 113, .null), (94, .aload_n 0, 95, 0, .null), (95, .getfield 49, 98, 0, .null), (98, .iload_n 1, 99, 0, .null), (99, .new 47, 102, 0, .null), (102, .dup, 103, 0, .null), (103, .invokespecial 53, 106, 0, .null), (106, .aastore, 107, 0, .null), (107, .iinc 1 1, 110, 0, .int (nI 1)), (110, .goto (-22), 113, 88, .null), (113, .aload_n 0, 114, 0, .null), (114, .sipush 200, 117, 0, .int (nI 200)), (117, .newarray .int, 119, 0, .null), (119, .putfield 54, 122, 0, .null), (122, .return_, 123, 0, .null)]
set_option maxRecDepth 100000 in
theorem ok_TA_init_1 : r_TA_init_1.all (am_okRowb "TraceAligner" prog_1_method_1_code am_big) = true := by decide +kernel
def r_TA_init : List am_Row := r_TA_init_0 ++ (r_TA_init_1)
def E_TA_init : am_E := (am_G0, (F_TA, N_TA, C_TA), m_TA_init, r_TA_init)
theorem e_TA_init : am_okE E_TA_init := ⟨am_big_good, okT_TA, am_okRow_of (am_all_app ok_TA_init_0 ok_TA_init_1)⟩
set_option maxRecDepth 100000 in
def r_TA_addPlace_0 : List am_Row := [(0, .aload_n 0, 1, 0, .null), (1, .getfield 10, 4, 0, .null), (4, .getfield 57, 7, 0, .null), (7, .bipush 8, 9, 0, .int (nI 8)), (9, .if_icmp .lt 13, 12, 22, .null), (12, .new 61, 15, 0, .null), (15, .dup, 16, 0, .null), (16, .ldc 63, 18, 0, .null), (18, .invokespecial 65, 21, 0, .null), (21, .athrow, 22, 0, .null), (22, .aload_n 0, 23, 0, .null), (23, .invokevirtual 68, 26, 0, .null), (26, .aload_n 0, 27, 0, .null), (27, .getfield 10, 30, 0, .null), (30, .invokevirtual 71, 33, 0, .null), (33, .ireturn, 34, 0, .null)]
set_option maxRecDepth 100000 in
theorem ok_TA_addPlace_0 : r_TA_addPlace_0.all (am_okRowb "TraceAligner" prog_1_method_2_code am_big) = true := by decide +kernel
def r_TA_addPlace : List am_Row := r_TA_addPlace_0
def E_TA_addPlace : am_E := (am_G0, (F_TA, N_TA, C_TA), m_TA_addPlace, r_TA_addPlace)
theorem e_TA_addPlace : am_okE E_TA_addPlace := ⟨am_big_good, okT_TA, am_okRow_of ok_TA_addPlace_0⟩
set_option maxRecDepth 100000 in
def r_TA_addTransition_0 : List am_Row := [(0, .iload_n 1, 1, 0, .null), (1, .iconst (-1), 2, 0, .int (-1)), (2, .if_icmp .eq 20, 5, 22, .null), (5, .iload_n 1, 6, 0, .null), (6, .invokestatic 75, 9, 0, .null), (9, .ifCond .eq 13, 12, 22, .null), (12, .new 79, 15, 0, .null), (15, .dup, 16, 0, .null), (16, .ldc 81, 18, 0, .null), (18, .invokespecial 83, 21, 0, .null), (21, .athrow, 22, 0, .null), (22, .aload_n 0, 23, 0, .null), (23, .getfield 10, 26, 0, .null), (26, .getfield 84, 29, 0, .null), (29, .bipush 10, 31, 0, .int (nI 10)), (31, .if_icmp .lt 13, 34, 44, .null), (34, .new 61, 37, 0, .null), (37, .dup, 38, 0, .null), (38, .ldc 87, 40, 0, .null), (40, .invokespecial 65, 43, 0, .null), (43, .athrow, 44, 0, .null), (44, .aload_n 0, 45, 0, .null), (45, .invokevirtual 68, 48, 0, .null), (48, .aload_n 0, 49, 0, .null), (49, .getfield 10, 52, 0, .null), (52, .iload_n 1, 53, 0, .null), (53, .invokevirtual 89, 56, 0, .null), (56, .ireturn, 57, 0, .null)]
set_option maxRecDepth 100000 in
theorem ok_TA_addTransition_0 : r_TA_addTransition_0.all (am_okRowb "TraceAligner" prog_1_method_3_code am_big) = true := by decide +kernel
def r_TA_addTransition : List am_Row := r_TA_addTransition_0
def E_TA_addTransition : am_E := (am_G0, (F_TA, N_TA, C_TA), m_TA_addTransition, r_TA_addTransition)
theorem e_TA_addTransition : am_okE E_TA_addTransition := ⟨am_big_good, okT_TA, am_okRow_of ok_TA_addTransition_0⟩
set_option maxRecDepth 100000 in
def r_TA_link_0 : List am_Row := [(0, .aload_n 0, 1, 0, .null), (1, .iload_n 1, 2, 0, .null), (2, .invokevirtual 93, 5, 0, .null), (5, .aload_n 0, 6, 0, .null), (6, .iload_n 2, 7, 0, .null), (7, .invokevirtual 97, 10, 0, .null), (10, .aload_n 0, 11, 0, .null), (11, .invokevirtual 68, 14, 0, .null), (14, .iload_n 3, 15, 0, .null), (15, .ifCond .eq 13, 18, 28, .null), (18, .aload_n 0, 19, 0, .null), (19, .getfield 10, 22, 0, .null), (22, .getfield 100, 25, 0, .null), (25, .goto 10, 28, 35, .null), (28, .aload_n 0, 29, 0, .null), (29, .getfield 10, 32, 0, .null), (32, .getfield 103, 35, 0, .null), (35, .astore 5, 37, 0, .null), (37, .aload 5, 39, 0, .null), (39, .iload_n 1, 40, 0, .null), (40, .iaload, 41, 0, .null), (41, .iload_n 2, 42, 0, .null), (42, .invokestatic 106, 45, 0, .null), (45, .istore 6, 47, 0, .null), (47, .aload 5, 49, 0, .null), (49, .iload_n 1, 50, 0, .null), (50, .iload 4, 52, 0, .null), (52, .ifCond .eq 14, 55, 66, .null), (55, .aload 5, 57, 0, .null), (57, .iload_n 1, 58, 0, .null), (58, .iaload, 59, 0, .null), (59, .iconst 1, 60, 0, .int (nI 1)), (60, .iload_n 2, 61, 0, .null), (61, .ishl, 62, 0, .null), (62, .ior, 63, 0, .null), (63, .goto 13, 66, 76, .null), (66, .aload 5, 68, 0, .null), (68, .iload_n 1, 69, 0, .null), (69, .iaload, 70, 0, .null), (70, .iconst 1, 71, 0, .int (nI 1))]
set_option maxRecDepth 100000 in
theorem ok_TA_link_0 : r_TA_link_0.all (am_okRowb "TraceAligner" prog_1_method_4_code am_big) = true := by decide +kernel
set_option maxRecDepth 100000 in
def r_TA_link_1 : List am_Row := [(71, .iload_n 2, 72, 0, .null), (72, .ishl, 73, 0, .null), (73, .iconst (-1), 74, 0, .int (-1)), (74, .ixor, 75, 0, .null), (75, .iand, 76, 0, .null), (76, .iastore, 77, 0, .null), (77, .iload 6, 79, 0, .null), (79, .ireturn, 80, 0, .null)]
set_option maxRecDepth 100000 in
theorem ok_TA_link_1 : r_TA_link_1.all (am_okRowb "TraceAligner" prog_1_method_4_code am_big) = true := by decide +kernel
def r_TA_link : List am_Row := r_TA_link_0 ++ (r_TA_link_1)
def E_TA_link : am_E := (am_G0, (F_TA, N_TA, C_TA), m_TA_link, r_TA_link)
theorem e_TA_link : am_okE E_TA_link := ⟨am_big_good, okT_TA, am_okRow_of (am_all_app ok_TA_link_0 ok_TA_link_1)⟩
set_option maxRecDepth 100000 in
def r_TA_setTokens_0 : List am_Row := [(0, .aload_n 0, 1, 0, .null), (1, .iload_n 1, 2, 0, .null), (2, .invokevirtual 97, 5, 0, .null), (5, .iload_n 2, 6, 0, .null), (6, .ifCond .lt 8, 9, 14, .null), (9, .iload_n 2, 10, 0, .null), (10, .iconst 3, 11, 0, .int (nI 3)), (11, .if_icmp .le 13, 14, 24, .null), (14, .new 79, 17, 0, .null), (17, .dup, 18, 0, .null), (18, .ldc 110, 20, 0, .null), (20, .invokespecial 83, 23, 0, .null), (23, .athrow, 24, 0, .null), (24, .aload_n 0, 25, 0, .null), (25, .invokevirtual 68, 28, 0, .null), (28, .iload_n 3, 29, 0, .null), (29, .ifCond .eq 13, 32, 42, .null), (32, .aload_n 0, 33, 0, .null), (33, .getfield 10, 36, 0, .null), (36, .getfield 112, 39, 0, .null), (39, .goto 10, 42, 49, .null), (42, .aload_n 0, 43, 0, .null), (43, .getfield 10, 46, 0, .null), (46, .getfield 115, 49, 0, .null), (49, .astore 4, 51, 0, .null), (51, .aload 4, 53, 0, .null), (53, .iload_n 1, 54, 0, .null), (54, .iaload, 55, 0, .null), (55, .istore 5, 57, 0, .null), (57, .aload 4, 59, 0, .null), (59, .iload_n 1, 60, 0, .null), (60, .iload_n 2, 61, 0, .null), (61, .iastore, 62, 0, .null), (62, .iload 5, 64, 0, .null), (64, .ireturn, 65, 0, .null)]
set_option maxRecDepth 100000 in
theorem ok_TA_setTokens_0 : r_TA_setTokens_0.all (am_okRowb "TraceAligner" prog_1_method_5_code am_big) = true := by decide +kernel
def r_TA_setTokens : List am_Row := r_TA_setTokens_0
def E_TA_setTokens : am_E := (am_G0, (F_TA, N_TA, C_TA), m_TA_setTokens, r_TA_setTokens)
theorem e_TA_setTokens : am_okE E_TA_setTokens := ⟨am_big_good, okT_TA, am_okRow_of ok_TA_setTokens_0⟩
set_option maxRecDepth 100000 in
def r_TA_count_0 : List am_Row := [(0, .iload_n 1, 1, 0, .null), (28, .aload_n 0, 29, 0, .null), (29, .getfield 10, 32, 0, .null), (32, .getfield 57, 35, 0, .null), (35, .ireturn, 36, 0, .null), (36, .aload_n 0, 37, 0, .null), (37, .getfield 10, 40, 0, .null), (40, .getfield 84, 43, 0, .null), (43, .ireturn, 44, 0, .null), (44, .aload_n 0, 45, 0, .null), (45, .getfield 118, 48, 0, .null), (48, .ireturn, 49, 0, .null), (49, .new 121, 52, 0, .null), (52, .dup, 53, 0, .null), (53, .ldc 123, 55, 0, .null), (55, .invokespecial 125, 58, 0, .null), (58, .athrow, 59, 0, .null)]
set_option maxRecDepth 100000 in
theorem ok_TA_count_0 : r_TA_count_0.all (am_okRowb "TraceAligner" prog_1_method_6_code am_big) = true := by decide +kernel
def r_TA_count : List am_Row := r_TA_count_0
def E_TA_count : am_E := (am_G0, (F_TA, N_TA, C_TA), m_TA_count, r_TA_count)
theorem e_TA_count : am_okE E_TA_count := ⟨am_big_good, okT_TA, am_okRow_of ok_TA_count_0⟩
set_option maxRecDepth 100000 in
def r_TA_markings_0 : List am_Row := [(0, .aload_n 0, 1, 0, .null), (1, .getfield 21, 4, 0, .null), (4, .invokevirtual 129, 7, 0, .null), (7, .aload_n 0, 8, 0, .null), (8, .getfield 21, 11, 0, .null), (11, .getfield 132, 14, 0, .null), (14, .ireturn, 15, 0, .null)]
set_option maxRecDepth 100000 in
theorem ok_TA_markings_0 : r_TA_markings_0.all (am_okRowb "TraceAligner" prog_1_method_8_code am_big) = true := by decide +kernel
def r_TA_markings : List am_Row := r_TA_markings_0
def E_TA_markings : am_E := (am_G0, (F_TA, N_TA, C_TA), m_TA_markings, r_TA_markings)
theorem e_TA_markings : am_okE E_TA_markings := ⟨am_big_good, okT_TA, am_okRow_of ok_TA_markings_0⟩
set_option maxRecDepth 100000 in
def r_TA_enabled_0 : List am_Row := [(0, .aload_n 0, 1, 0, .null), (1, .invokevirtual 135, 4, 0, .null), (4, .aload_n 0, 5, 0, .null), (5, .iload_n 1, 6, 0, .null), (6, .invokevirtual 138, 9, 0, .null), (9, .aload_n 0, 10, 0, .null), (10, .getfield 21, 13, 0, .null), (13, .getfield 148, 16, 0, .null), (16, .iload_n 1, 17, 0, .null), (17, .iaload, 18, 0, .null), (18, .ireturn, 19, 0, .null)]
set_option maxRecDepth 100000 in
theorem ok_TA_enabled_0 : r_TA_enabled_0.all (am_okRowb "TraceAligner" prog_1_method_10_code am_big) = true := by decide +kernel
def r_TA_enabled : List am_Row := r_TA_enabled_0
def E_TA_enabled : am_E := (am_G0, (F_TA, N_TA, C_TA), m_TA_enabled, r_TA_enabled)
theorem e_TA_enabled : am_okE E_TA_enabled := ⟨am_big_good, okT_TA, am_okRow_of ok_TA_enabled_0⟩
set_option maxRecDepth 100000 in
def r_TA_next_0 : List am_Row := [(0, .aload_n 0, 1, 0, .null), (1, .invokevirtual 135, 4, 0, .null), (4, .aload_n 0, 5, 0, .null), (5, .iload_n 1, 6, 0, .null), (6, .invokevirtual 138, 9, 0, .null), (9, .aload_n 0, 10, 0, .null), (10, .iload_n 2, 11, 0, .null), (11, .invokevirtual 93, 14, 0, .null), (14, .aload_n 0, 15, 0, .null), (15, .getfield 21, 18, 0, .null), (18, .iload_n 1, 19, 0, .null), (19, .iload_n 2, 20, 0, .null), (20, .invokevirtual 151, 23, 0, .null), (23, .ireturn, 24, 0, .null)]
set_option maxRecDepth 100000 in
theorem ok_TA_next_0 : r_TA_next_0.all (am_okRowb "TraceAligner" prog_1_method_11_code am_big) = true := by decide +kernel
def r_TA_next : List am_Row := r_TA_next_0
def E_TA_next : am_E := (am_G0, (F_TA, N_TA, C_TA), m_TA_next, r_TA_next)
theorem e_TA_next : am_okE E_TA_next := ⟨am_big_good, okT_TA, am_okRow_of ok_TA_next_0⟩
set_option maxRecDepth 100000 in
def r_TA_last_0 : List am_Row := [(0, .aload_n 0, 1, 0, .null), (1, .invokevirtual 135, 4, 0, .null), (4, .aload_n 0, 5, 0, .null), (5, .getfield 21, 8, 0, .null), (8, .getfield 154, 11, 0, .null), (11, .ireturn, 12, 0, .null)]
set_option maxRecDepth 100000 in
theorem ok_TA_last_0 : r_TA_last_0.all (am_okRowb "TraceAligner" prog_1_method_12_code am_big) = true := by decide +kernel
def r_TA_last : List am_Row := r_TA_last_0
def E_TA_last : am_E := (am_G0, (F_TA, N_TA, C_TA), m_TA_last, r_TA_last)
theorem e_TA_last : am_okE E_TA_last := ⟨am_big_good, okT_TA, am_okRow_of ok_TA_last_0⟩
set_option maxRecDepth 100000 in
def r_TA_away_0 : List am_Row := [(0, .aload_n 0, 1, 0, .null), (1, .invokevirtual 135, 4, 0, .null), (4, .aload_n 0, 5, 0, .null), (5, .iload_n 1, 6, 0, .null), (6, .invokevirtual 138, 9, 0, .null), (9, .aload_n 0, 10, 0, .null), (10, .getfield 40, 13, 0, .null), (13, .iload_n 1, 14, 0, .null), (14, .invokevirtual 157, 17, 0, .null), (17, .ireturn, 18, 0, .null)]
set_option maxRecDepth 100000 in
theorem ok_TA_away_0 : r_TA_away_0.all (am_okRowb "TraceAligner" prog_1_method_15_code am_big) = true := by decide +kernel
def r_TA_away : List am_Row := r_TA_away_0
def E_TA_away : am_E := (am_G0, (F_TA, N_TA, C_TA), m_TA_away, r_TA_away)
theorem e_TA_away : am_okE E_TA_away := ⟨am_big_good, okT_TA, am_okRow_of ok_TA_away_0⟩
set_option maxRecDepth 100000 in
def r_TA_event_0 : List am_Row := [(0, .iload_n 1, 1, 0, .null), (1, .invokestatic 75, 4, 0, .null), (4, .ifCond .eq 13, 7, 17, .null), (7, .new 79, 10, 0, .null), (10, .dup, 11, 0, .null), (11, .ldc 160, 13, 0, .null), (13, .invokespecial 83, 16, 0, .null), (16, .athrow, 17, 0, .null), (17, .aload_n 0, 18, 0, .null), (18, .getfield 162, 21, 0, .null), (21, .bipush 8, 23, 0, .int (nI 8)), (23, .if_icmp .lt 13, 26, 36, .null), (26, .new 61, 29, 0, .null), (29, .dup, 30, 0, .null), (30, .ldc 165, 32, 0, .null), (32, .invokespecial 65, 35, 0, .null), (35, .athrow, 36, 0, .null), (36, .aload_n 0, 37, 0, .null), (37, .getfield 44, 40, 0, .null), (40, .aload_n 0, 41, 0, .null), (41, .getfield 162, 44, 0, .null), (44, .iload_n 1, 45, 0, .null), (45, .iastore, 46, 0, .null), (46, .aload_n 0, 47, 0, .null), (47, .dup, 48, 0, .null), (48, .getfield 162, 51, 0, .null), (51, .iconst 1, 52, 0, .int (nI 1)), (52, .iadd, 53, 0, .null), (53, .putfield 162, 56, 0, .null), (56, .aload_n 0, 57, 0, .null), (57, .getfield 162, 60, 0, .null), (60, .ireturn, 61, 0, .null)]
set_option maxRecDepth 100000 in
theorem ok_TA_event_0 : r_TA_event_0.all (am_okRowb "TraceAligner" prog_1_method_16_code am_big) = true := by decide +kernel
def r_TA_event : List am_Row := r_TA_event_0
def E_TA_event : am_E := (am_G0, (F_TA, N_TA, C_TA), m_TA_event, r_TA_event)
theorem e_TA_event : am_okE E_TA_event := ⟨am_big_good, okT_TA, am_okRow_of ok_TA_event_0⟩
set_option maxRecDepth 100000 in
def r_TA_store_0 : List am_Row := [(0, .iload_n 1, 1, 0, .null), (1, .ifCond .lt 9, 4, 10, .null), (4, .iload_n 1, 5, 0, .null), (5, .bipush 99, 7, 0, .int (nI 99)), (7, .if_icmp .le 13, 10, 20, .null), (10, .new 79, 13, 0, .null), (13, .dup, 14, 0, .null), (14, .ldc 167, 16, 0, .null), (16, .invokespecial 83, 19, 0, .null), (19, .athrow, 20, 0, .null), (20, .aload_n 0, 21, 0, .null), (21, .getfield 118, 24, 0, .null), (24, .bipush 8, 26, 0, .int (nI 8)), (26, .if_icmp .lt 13, 29, 39, .null), (29, .new 61, 32, 0, .null), (32, .dup, 33, 0, .null), (33, .ldc 169, 35, 0, .null), (35, .invokespecial 65, 38, 0, .null), (38, .athrow, 39, 0, .null), (39, .aload_n 0, 40, 0, .null), (40, .getfield 49, 43, 0, .null), (43, .aload_n 0, 44, 0, .null), (44, .getfield 118, 47, 0, .null), (47, .aaload, 48, 0, .null), (48, .aload_n 0, 49, 0, .null), (49, .getfield 44, 52, 0, .null), (52, .aload_n 0, 53, 0, .null), (53, .getfield 162, 56, 0, .null), (56, .iload_n 1, 57, 0, .null), (57, .invokevirtual 171, 60, 0, .null), (60, .aload_n 0, 61, 0, .null), (61, .iconst 0, 62, 0, .int (nI 0)), (62, .putfield 162, 65, 0, .null), (65, .aload_n 0, 66, 0, .null), (66, .dup, 67, 0, .null), (67, .getfield 118, 70, 0, .null), (70, .iconst 1, 71, 0, .int (nI 1)), (71, .iadd, 72, 0, .null), (72, .putfield 118, 75, 0, .null), (75, .aload_n 0, 76, 0, .null)]
set_option maxRecDepth 100000 in
theorem ok_TA_store_0 : r_TA_store_0.all (am_okRowb "TraceAligner" prog_1_method_17_code am_big) = true := by decide +kernel
set_option maxRecDepth 100000 in
def r_TA_store_1 : List am_Row := [(76, .getfield 118, 79, 0, .null), (79, .iconst 1, 80, 0, .int (nI 1)), (80, .isub, 81, 0, .null), (81, .ireturn, 82, 0, .null)]
set_option maxRecDepth 100000 in
theorem ok_TA_store_1 : r_TA_store_1.all (am_okRowb "TraceAligner" prog_1_method_17_code am_big) = true := by decide +kernel
def r_TA_store : List am_Row := r_TA_store_0 ++ (r_TA_store_1)
def E_TA_store : am_E := (am_G0, (F_TA, N_TA, C_TA), m_TA_store, r_TA_store)
theorem e_TA_store : am_okE E_TA_store := ⟨am_big_good, okT_TA, am_okRow_of (am_all_app ok_TA_store_0 ok_TA_store_1)⟩
set_option maxRecDepth 100000 in
def r_TA_length_0 : List am_Row := [(0, .aload_n 0, 1, 0, .null), (1, .iload_n 1, 2, 0, .null), (2, .invokevirtual 177, 5, 0, .null), (5, .aload_n 0, 6, 0, .null), (6, .getfield 49, 9, 0, .null), (9, .iload_n 1, 10, 0, .null), (10, .aaload, 11, 0, .null), (11, .getfield 180, 14, 0, .null), (14, .ireturn, 15, 0, .null)]
set_option maxRecDepth 100000 in
theorem ok_TA_length_0 : r_TA_length_0.all (am_okRowb "TraceAligner" prog_1_method_19_code am_big) = true := by decide +kernel
def r_TA_length : List am_Row := r_TA_length_0
def E_TA_length : am_E := (am_G0, (F_TA, N_TA, C_TA), m_TA_length, r_TA_length)
theorem e_TA_length : am_okE E_TA_length := ⟨am_big_good, okT_TA, am_okRow_of ok_TA_length_0⟩
set_option maxRecDepth 100000 in
def r_TA_setCost_0 : List am_Row := [(0, .aload_n 0, 1, 0, .null), (1, .iload_n 1, 2, 0, .null), (2, .invokevirtual 93, 5, 0, .null), (5, .iload_n 2, 6, 0, .null), (6, .invokestatic 183, 9, 0, .null), (9, .aload_n 0, 10, 0, .null), (10, .invokevirtual 186, 13, 0, .null), (13, .aload_n 0, 14, 0, .null), (14, .getfield 10, 17, 0, .null), (17, .getfield 189, 20, 0, .null), (20, .iload_n 1, 21, 0, .null), (21, .iaload, 22, 0, .null), (22, .istore_n 3, 23, 0, .null), (23, .aload_n 0, 24, 0, .null), (24, .getfield 10, 27, 0, .null), (27, .getfield 189, 30, 0, .null), (30, .iload_n 1, 31, 0, .null), (31, .iload_n 2, 32, 0, .null), (32, .iastore, 33, 0, .null), (33, .iload_n 3, 34, 0, .null), (34, .ireturn, 35, 0, .null)]
set_option maxRecDepth 100000 in
theorem ok_TA_setCost_0 : r_TA_setCost_0.all (am_okRowb "TraceAligner" prog_1_method_21_code am_big) = true := by decide +kernel
def r_TA_setCost : List am_Row := r_TA_setCost_0
def E_TA_setCost : am_E := (am_G0, (F_TA, N_TA, C_TA), m_TA_setCost, r_TA_setCost)
theorem e_TA_setCost : am_okE E_TA_setCost := ⟨am_big_good, okT_TA, am_okRow_of ok_TA_setCost_0⟩
set_option maxRecDepth 100000 in
def r_TA_cost_0 : List am_Row := [(0, .aload_n 0, 1, 0, .null), (1, .iload_n 1, 2, 0, .null), (2, .invokevirtual 192, 5, 0, .null), (5, .getfield 196, 8, 0, .null), (8, .ireturn, 9, 0, .null)]
set_option maxRecDepth 100000 in
theorem ok_TA_cost_0 : r_TA_cost_0.all (am_okRowb "TraceAligner" prog_1_method_22_code am_big) = true := by decide +kernel
def r_TA_cost : List am_Row := r_TA_cost_0
def E_TA_cost : am_E := (am_G0, (F_TA, N_TA, C_TA), m_TA_cost, r_TA_cost)
theorem e_TA_cost : am_okE E_TA_cost := ⟨am_big_good, okT_TA, am_okRow_of ok_TA_cost_0⟩
set_option maxRecDepth 100000 in
def r_TA_moves_0 : List am_Row := [(0, .aload_n 0, 1, 0, .null), (1, .iload_n 1, 2, 0, .null), (2, .invokevirtual 192, 5, 0, .null), (5, .getfield 199, 8, 0, .null), (8, .ireturn, 9, 0, .null)]
set_option maxRecDepth 100000 in
theorem ok_TA_moves_0 : r_TA_moves_0.all (am_okRowb "TraceAligner" prog_1_method_23_code am_big) = true := by decide +kernel
def r_TA_moves : List am_Row := r_TA_moves_0
def E_TA_moves : am_E := (am_G0, (F_TA, N_TA, C_TA), m_TA_moves, r_TA_moves)
theorem e_TA_moves : am_okE E_TA_moves := ⟨am_big_good, okT_TA, am_okRow_of ok_TA_moves_0⟩
set_option maxRecDepth 100000 in
def r_TA_move_0 : List am_Row := [(0, .aload_n 0, 1, 0, .null), (1, .iload_n 1, 2, 0, .null), (2, .invokevirtual 192, 5, 0, .null), (5, .astore 4, 7, 0, .null), (7, .iload_n 2, 8, 0, .null), (8, .ifCond .lt 12, 11, 20, .null), (11, .iload_n 2, 12, 0, .null), (12, .aload 4, 14, 0, .null), (14, .getfield 199, 17, 0, .null), (17, .if_icmp .lt 13, 20, 30, .null), (20, .new 79, 23, 0, .null), (23, .dup, 24, 0, .null), (24, .ldc 202, 26, 0, .null), (26, .invokespecial 83, 29, 0, .null), (29, .athrow, 30, 0, .null), (30, .aload 4, 32, 0, .null), (32, .getfield 204, 35, 0, .null), (35, .iload_n 2, 36, 0, .null), (36, .iaload, 37, 0, .null), (37, .istore 5, 39, 0, .null), (39, .iload_n 3, 40, 0, .null), (72, .iload 5, 74, 0, .null), (74, .invokestatic 207, 77, 0, .null), (77, .ireturn, 78, 0, .null), (78, .iload 5, 80, 0, .null), (80, .invokestatic 210, 83, 0, .null), (83, .ireturn, 84, 0, .null), (84, .iload 5, 86, 0, .null), (86, .invokestatic 213, 89, 0, .null), (89, .ireturn, 90, 0, .null), (90, .iload 5, 92, 0, .null), (92, .invokestatic 216, 95, 0, .null), (95, .ireturn, 96, 0, .null), (96, .new 79, 99, 0, .null), (99, .dup, 100, 0, .null), (100, .ldc 219, 102, 0, .null), (102, .invokespecial 83, 105, 0, .null), (105, .athrow, 106, 0, .null)]
set_option maxRecDepth 100000 in
theorem ok_TA_move_0 : r_TA_move_0.all (am_okRowb "TraceAligner" prog_1_method_24_code am_big) = true := by decide +kernel
def r_TA_move : List am_Row := r_TA_move_0
def E_TA_move : am_E := (am_G0, (F_TA, N_TA, C_TA), m_TA_move, r_TA_move)
theorem e_TA_move : am_okE E_TA_move := ⟨am_big_good, okT_TA, am_okRow_of ok_TA_move_0⟩
set_option maxRecDepth 100000 in
def r_TA_worst_0 : List am_Row := [(0, .aload_n 0, 1, 0, .null), (1, .iload_n 1, 2, 0, .null), (2, .invokevirtual 192, 5, 0, .null), (5, .getfield 221, 8, 0, .null), (8, .ireturn, 9, 0, .null)]
set_option maxRecDepth 100000 in
theorem ok_TA_worst_0 : r_TA_worst_0.all (am_okRowb "TraceAligner" prog_1_method_25_code am_big) = true := by decide +kernel
def r_TA_worst : List am_Row := r_TA_worst_0
def E_TA_worst : am_E := (am_G0, (F_TA, N_TA, C_TA), m_TA_worst, r_TA_worst)
theorem e_TA_worst : am_okE E_TA_worst := ⟨am_big_good, okT_TA, am_okRow_of ok_TA_worst_0⟩
set_option maxRecDepth 100000 in
def r_TA_forgetMarkings_0 : List am_Row := [(0, .aload_n 0, 1, 0, .null), (1, .getfield 21, 4, 0, .null), (4, .iconst 0, 5, 0, .int (nI 0)), (5, .putfield 265, 8, 0, .null), (8, .aload_n 0, 9, 0, .null), (9, .invokevirtual 186, 12, 0, .null), (12, .return_, 13, 0, .null)]
set_option maxRecDepth 100000 in
theorem ok_TA_forgetMarkings_0 : r_TA_forgetMarkings_0.all (am_okRowb "TraceAligner" prog_1_method_33_code am_big) = true := by decide +kernel
def r_TA_forgetMarkings : List am_Row := r_TA_forgetMarkings_0
def E_TA_forgetMarkings : am_E := (am_G0, (F_TA, N_TA, C_TA), m_TA_forgetMarkings, r_TA_forgetMarkings)
theorem e_TA_forgetMarkings : am_okE E_TA_forgetMarkings := ⟨am_big_good, okT_TA, am_okRow_of ok_TA_forgetMarkings_0⟩
set_option maxRecDepth 100000 in
def r_TA_forgetAlignments_0 : List am_Row := [(0, .iconst 0, 1, 0, .int (nI 0)), (1, .istore_n 1, 2, 0, .null), (2, .iload_n 1, 3, 0, .null), (3, .bipush 8, 5, 0, .int (nI 8)), (5, .if_icmp .ge 19, 8, 24, .null), (8, .aload_n 0, 9, 0, .null), (9, .getfield 49, 12, 0, .null), (12, .iload_n 1, 13, 0, .null), (13, .aaload, 14, 0, .null), (14, .iconst 0, 15, 0, .int (nI 0)), (15, .putfield 269, 18, 0, .null), (18, .iinc 1 1, 21, 0, .int (nI 1)), (21, .goto (-19), 24, 2, .null), (24, .return_, 25, 0, .null)]
set_option maxRecDepth 100000 in
theorem ok_TA_forgetAlignments_0 : r_TA_forgetAlignments_0.all (am_okRowb "TraceAligner" prog_1_method_34_code am_big) = true := by decide +kernel
def r_TA_forgetAlignments : List am_Row := r_TA_forgetAlignments_0
def E_TA_forgetAlignments : am_E := (am_G0, (F_TA, N_TA, C_TA), m_TA_forgetAlignments, r_TA_forgetAlignments)
theorem e_TA_forgetAlignments : am_okE E_TA_forgetAlignments := ⟨am_big_good, okT_TA, am_okRow_of ok_TA_forgetAlignments_0⟩
set_option maxRecDepth 100000 in
def r_TA_isNoLabel_0 : List am_Row := [(0, .iload_n 0, 1, 0, .null), (1, .ifCond .lt 9, 4, 10, .null), (4, .iload_n 0, 5, 0, .null), (5, .bipush 6, 7, 0, .int (nI 6)), (7, .if_icmp .lt 7, 10, 14, .null), (10, .iconst 1, 11, 0, .int (nI 1)), (11, .goto 4, 14, 15, .null), (14, .iconst 0, 15, 0, .int (nI 0)), (15, .ireturn, 16, 0, .null)]
set_option maxRecDepth 100000 in
theorem ok_TA_isNoLabel_0 : r_TA_isNoLabel_0.all (am_okRowb "TraceAligner" prog_1_method_35_code am_big) = true := by decide +kernel
def r_TA_isNoLabel : List am_Row := r_TA_isNoLabel_0
def E_TA_isNoLabel : am_E := (am_G0, (F_TA, N_TA, C_TA), m_TA_isNoLabel, r_TA_isNoLabel)
theorem e_TA_isNoLabel : am_okE E_TA_isNoLabel := ⟨am_big_good, okT_TA, am_okRow_of ok_TA_isNoLabel_0⟩
set_option maxRecDepth 100000 in
def r_TA_requirePlace_0 : List am_Row := [(0, .iload_n 1, 1, 0, .null), (1, .ifCond .lt 14, 4, 15, .null), (4, .iload_n 1, 5, 0, .null), (5, .aload_n 0, 6, 0, .null), (6, .getfield 10, 9, 0, .null), (9, .getfield 57, 12, 0, .null), (12, .if_icmp .lt 14, 15, 26, .null), (15, .new 121, 18, 0, .null), (18, .dup, 19, 0, .null), (19, .ldc_w 272, 22, 0, .null), (22, .invokespecial 125, 25, 0, .null), (25, .athrow, 26, 0, .null), (26, .return_, 27, 0, .null)]
set_option maxRecDepth 100000 in
theorem ok_TA_requirePlace_0 : r_TA_requirePlace_0.all (am_okRowb "TraceAligner" prog_1_method_36_code am_big) = true := by decide +kernel
def r_TA_requirePlace : List am_Row := r_TA_requirePlace_0
def E_TA_requirePlace : am_E := (am_G0, (F_TA, N_TA, C_TA), m_TA_requirePlace, r_TA_requirePlace)
theorem e_TA_requirePlace : am_okE E_TA_requirePlace := ⟨am_big_good, okT_TA, am_okRow_of ok_TA_requirePlace_0⟩
set_option maxRecDepth 100000 in
def r_TA_requireTransition_0 : List am_Row := [(0, .iload_n 1, 1, 0, .null), (1, .ifCond .lt 14, 4, 15, .null), (4, .iload_n 1, 5, 0, .null), (5, .aload_n 0, 6, 0, .null), (6, .getfield 10, 9, 0, .null), (9, .getfield 84, 12, 0, .null), (12, .if_icmp .lt 14, 15, 26, .null), (15, .new 121, 18, 0, .null), (18, .dup, 19, 0, .null), (19, .ldc_w 274, 22, 0, .null), (22, .invokespecial 125, 25, 0, .null), (25, .athrow, 26, 0, .null), (26, .return_, 27, 0, .null)]
set_option maxRecDepth 100000 in
theorem ok_TA_requireTransition_0 : r_TA_requireTransition_0.all (am_okRowb "TraceAligner" prog_1_method_37_code am_big) = true := by decide +kernel
def r_TA_requireTransition : List am_Row := r_TA_requireTransition_0
def E_TA_requireTransition : am_E := (am_G0, (F_TA, N_TA, C_TA), m_TA_requireTransition, r_TA_requireTransition)
theorem e_TA_requireTransition : am_okE E_TA_requireTransition := ⟨am_big_good, okT_TA, am_okRow_of ok_TA_requireTransition_0⟩
set_option maxRecDepth 100000 in
def r_TA_requireMarkings_0 : List am_Row := [(0, .aload_n 0, 1, 0, .null), (1, .getfield 21, 4, 0, .null), (4, .invokevirtual 129, 7, 0, .null), (7, .aload_n 0, 8, 0, .null), (8, .getfield 21, 11, 0, .null), (11, .getfield 132, 14, 0, .null), (14, .iconst (-1), 15, 0, .int (-1)), (15, .if_icmp .ne 14, 18, 29, .null), (18, .new 61, 21, 0, .null), (21, .dup, 22, 0, .null), (22, .ldc_w 276, 25, 0, .null), (25, .invokespecial 65, 28, 0, .null), (28, .athrow, 29, 0, .null), (29, .return_, 30, 0, .null)]
set_option maxRecDepth 100000 in
theorem ok_TA_requireMarkings_0 : r_TA_requireMarkings_0.all (am_okRowb "TraceAligner" prog_1_method_38_code am_big) = true := by decide +kernel
def r_TA_requireMarkings : List am_Row := r_TA_requireMarkings_0
def E_TA_requireMarkings : am_E := (am_G0, (F_TA, N_TA, C_TA), m_TA_requireMarkings, r_TA_requireMarkings)
theorem e_TA_requireMarkings : am_okE E_TA_requireMarkings := ⟨am_big_good, okT_TA, am_okRow_of ok_TA_requireMarkings_0⟩
set_option maxRecDepth 100000 in
def r_TA_requireMarking_0 : List am_Row := [(0, .iload_n 1, 1, 0, .null), (1, .ifCond .lt 14, 4, 15, .null), (4, .iload_n 1, 5, 0, .null), (5, .aload_n 0, 6, 0, .null), (6, .getfield 21, 9, 0, .null), (9, .getfield 132, 12, 0, .null), (12, .if_icmp .lt 14, 15, 26, .null), (15, .new 121, 18, 0, .null), (18, .dup, 19, 0, .null), (19, .ldc_w 278, 22, 0, .null), (22, .invokespecial 125, 25, 0, .null), (25, .athrow, 26, 0, .null), (26, .return_, 27, 0, .null)]
set_option maxRecDepth 100000 in
theorem ok_TA_requireMarking_0 : r_TA_requireMarking_0.all (am_okRowb "TraceAligner" prog_1_method_39_code am_big) = true := by decide +kernel
def r_TA_requireMarking : List am_Row := r_TA_requireMarking_0
def E_TA_requireMarking : am_E := (am_G0, (F_TA, N_TA, C_TA), m_TA_requireMarking, r_TA_requireMarking)
theorem e_TA_requireMarking : am_okE E_TA_requireMarking := ⟨am_big_good, okT_TA, am_okRow_of ok_TA_requireMarking_0⟩
set_option maxRecDepth 100000 in
def r_TA_requireTrace_0 : List am_Row := [(0, .iload_n 1, 1, 0, .null), (1, .ifCond .lt 11, 4, 12, .null), (4, .iload_n 1, 5, 0, .null), (5, .aload_n 0, 6, 0, .null), (6, .getfield 118, 9, 0, .null), (9, .if_icmp .lt 14, 12, 23, .null), (12, .new 121, 15, 0, .null), (15, .dup, 16, 0, .null), (16, .ldc_w 280, 19, 0, .null), (19, .invokespecial 125, 22, 0, .null), (22, .athrow, 23, 0, .null), (23, .return_, 24, 0, .null)]
set_option maxRecDepth 100000 in
theorem ok_TA_requireTrace_0 : r_TA_requireTrace_0.all (am_okRowb "TraceAligner" prog_1_method_40_code am_big) = true := by decide +kernel
def r_TA_requireTrace : List am_Row := r_TA_requireTrace_0
def E_TA_requireTrace : am_E := (am_G0, (F_TA, N_TA, C_TA), m_TA_requireTrace, r_TA_requireTrace)
theorem e_TA_requireTrace : am_okE E_TA_requireTrace := ⟨am_big_good, okT_TA, am_okRow_of ok_TA_requireTrace_0⟩
set_option maxRecDepth 100000 in
def r_TA_requireCost_0 : List am_Row := [(0, .iload_n 0, 1, 0, .null), (1, .ifCond .lt 9, 4, 10, .null), (4, .iload_n 0, 5, 0, .null), (5, .bipush 9, 7, 0, .int (nI 9)), (7, .if_icmp .le 14, 10, 21, .null), (10, .new 79, 13, 0, .null), (13, .dup, 14, 0, .null), (14, .ldc_w 282, 17, 0, .null), (17, .invokespecial 83, 20, 0, .null), (20, .athrow, 21, 0, .null), (21, .return_, 22, 0, .null)]
set_option maxRecDepth 100000 in
theorem ok_TA_requireCost_0 : r_TA_requireCost_0.all (am_okRowb "TraceAligner" prog_1_method_41_code am_big) = true := by decide +kernel
def r_TA_requireCost : List am_Row := r_TA_requireCost_0
def E_TA_requireCost : am_E := (am_G0, (F_TA, N_TA, C_TA), m_TA_requireCost, r_TA_requireCost)
theorem e_TA_requireCost : am_okE E_TA_requireCost := ⟨am_big_good, okT_TA, am_okRow_of ok_TA_requireCost_0⟩
set_option maxRecDepth 100000 in
def r_TA_alignedTrace_0 : List am_Row := [(0, .aload_n 0, 1, 0, .null), (1, .iload_n 1, 2, 0, .null), (2, .invokevirtual 177, 5, 0, .null), (5, .aload_n 0, 6, 0, .null), (6, .invokevirtual 135, 9, 0, .null), (9, .aload_n 0, 10, 0, .null), (10, .getfield 40, 13, 0, .null), (13, .aload_n 0, 14, 0, .null), (14, .getfield 49, 17, 0, .null), (17, .iload_n 1, 18, 0, .null), (18, .aaload, 19, 0, .null), (19, .invokevirtual 236, 22, 0, .null), (22, .aload_n 0, 23, 0, .null), (23, .getfield 49, 26, 0, .null), (26, .iload_n 1, 27, 0, .null), (27, .aaload, 28, 0, .null), (28, .areturn, 29, 0, .null)]
set_option maxRecDepth 100000 in
theorem ok_TA_alignedTrace_0 : r_TA_alignedTrace_0.all (am_okRowb "TraceAligner" prog_1_method_42_code am_big) = true := by decide +kernel
def r_TA_alignedTrace : List am_Row := r_TA_alignedTrace_0
def E_TA_alignedTrace : am_E := (am_G0, (F_TA, N_TA, C_TA), m_TA_alignedTrace, r_TA_alignedTrace)
theorem e_TA_alignedTrace : am_okE E_TA_alignedTrace := ⟨am_big_good, okT_TA, am_okRow_of ok_TA_alignedTrace_0⟩
set_option maxRecDepth 100000 in
def r_TA_isIn_0 : List am_Row := [(0, .iload_n 0, 1, 0, .null), (1, .iload_n 1, 2, 0, .null), (2, .ishr, 3, 0, .null), (3, .iconst 1, 4, 0, .int (nI 1)), (4, .iand, 5, 0, .null), (5, .ifCond .eq 7, 8, 12, .null), (8, .iconst 1, 9, 0, .int (nI 1)), (9, .goto 4, 12, 13, .null), (12, .iconst 0, 13, 0, .int (nI 0)), (13, .ireturn, 14, 0, .null)]
set_option maxRecDepth 100000 in
theorem ok_TA_isIn_0 : r_TA_isIn_0.all (am_okRowb "TraceAligner" prog_1_method_46_code am_big) = true := by decide +kernel
def r_TA_isIn : List am_Row := r_TA_isIn_0
def E_TA_isIn : am_E := (am_G0, (F_TA, N_TA, C_TA), m_TA_isIn, r_TA_isIn)
theorem e_TA_isIn : am_okE E_TA_isIn := ⟨am_big_good, okT_TA, am_okRow_of ok_TA_isIn_0⟩
set_option maxRecDepth 100000 in
def r_TA_tokensIn_0 : List am_Row := [(0, .iload_n 0, 1, 0, .null), (1, .iconst 2, 2, 0, .int (nI 2)), (2, .iload_n 1, 3, 0, .null), (3, .imul, 4, 0, .null), (4, .ishr, 5, 0, .null), (5, .iconst 3, 6, 0, .int (nI 3)), (6, .iand, 7, 0, .null), (7, .ireturn, 8, 0, .null)]
set_option maxRecDepth 100000 in
theorem ok_TA_tokensIn_0 : r_TA_tokensIn_0.all (am_okRowb "TraceAligner" prog_1_method_47_code am_big) = true := by decide +kernel
def r_TA_tokensIn : List am_Row := r_TA_tokensIn_0
def E_TA_tokensIn : am_E := (am_G0, (F_TA, N_TA, C_TA), m_TA_tokensIn, r_TA_tokensIn)
theorem e_TA_tokensIn : am_okE E_TA_tokensIn := ⟨am_big_good, okT_TA, am_okRow_of ok_TA_tokensIn_0⟩
set_option maxRecDepth 100000 in
def r_TA_packMove_0 : List am_Row := [(0, .iload_n 0, 1, 0, .null), (1, .iload_n 1, 2, 0, .null), (2, .iconst 1, 3, 0, .int (nI 1)), (3, .iadd, 4, 0, .null), (4, .iconst 2, 5, 0, .int (nI 2)), (5, .ishl, 6, 0, .null), (6, .ior, 7, 0, .null), (7, .iload_n 2, 8, 0, .null), (8, .iconst 1, 9, 0, .int (nI 1)), (9, .iadd, 10, 0, .null), (10, .bipush 6, 12, 0, .int (nI 6)), (12, .ishl, 13, 0, .null), (13, .ior, 14, 0, .null), (14, .iload_n 3, 15, 0, .null), (15, .bipush 9, 17, 0, .int (nI 9)), (17, .ishl, 18, 0, .null), (18, .ior, 19, 0, .null), (19, .ireturn, 20, 0, .null)]
set_option maxRecDepth 100000 in
theorem ok_TA_packMove_0 : r_TA_packMove_0.all (am_okRowb "TraceAligner" prog_1_method_48_code am_big) = true := by decide +kernel
def r_TA_packMove : List am_Row := r_TA_packMove_0
def E_TA_packMove : am_E := (am_G0, (F_TA, N_TA, C_TA), m_TA_packMove, r_TA_packMove)
theorem e_TA_packMove : am_okE E_TA_packMove := ⟨am_big_good, okT_TA, am_okRow_of ok_TA_packMove_0⟩
set_option maxRecDepth 100000 in
def r_TA_kindOf_0 : List am_Row := [(0, .iload_n 0, 1, 0, .null), (1, .iconst 3, 2, 0, .int (nI 3)), (2, .iand, 3, 0, .null), (3, .ireturn, 4, 0, .null)]
set_option maxRecDepth 100000 in
theorem ok_TA_kindOf_0 : r_TA_kindOf_0.all (am_okRowb "TraceAligner" prog_1_method_49_code am_big) = true := by decide +kernel
def r_TA_kindOf : List am_Row := r_TA_kindOf_0
def E_TA_kindOf : am_E := (am_G0, (F_TA, N_TA, C_TA), m_TA_kindOf, r_TA_kindOf)
theorem e_TA_kindOf : am_okE E_TA_kindOf := ⟨am_big_good, okT_TA, am_okRow_of ok_TA_kindOf_0⟩
set_option maxRecDepth 100000 in
def r_TA_transitionOf_0 : List am_Row := [(0, .iload_n 0, 1, 0, .null), (1, .iconst 2, 2, 0, .int (nI 2)), (2, .ishr, 3, 0, .null), (3, .bipush 15, 5, 0, .int (nI 15)), (5, .iand, 6, 0, .null), (6, .iconst 1, 7, 0, .int (nI 1)), (7, .isub, 8, 0, .null), (8, .ireturn, 9, 0, .null)]
set_option maxRecDepth 100000 in
theorem ok_TA_transitionOf_0 : r_TA_transitionOf_0.all (am_okRowb "TraceAligner" prog_1_method_50_code am_big) = true := by decide +kernel
def r_TA_transitionOf : List am_Row := r_TA_transitionOf_0
def E_TA_transitionOf : am_E := (am_G0, (F_TA, N_TA, C_TA), m_TA_transitionOf, r_TA_transitionOf)
theorem e_TA_transitionOf : am_okE E_TA_transitionOf := ⟨am_big_good, okT_TA, am_okRow_of ok_TA_transitionOf_0⟩
set_option maxRecDepth 100000 in
def r_TA_labelOf_0 : List am_Row := [(0, .iload_n 0, 1, 0, .null), (1, .bipush 6, 3, 0, .int (nI 6)), (3, .ishr, 4, 0, .null), (4, .bipush 7, 6, 0, .int (nI 7)), (6, .iand, 7, 0, .null), (7, .iconst 1, 8, 0, .int (nI 1)), (8, .isub, 9, 0, .null), (9, .ireturn, 10, 0, .null)]
set_option maxRecDepth 100000 in
theorem ok_TA_labelOf_0 : r_TA_labelOf_0.all (am_okRowb "TraceAligner" prog_1_method_51_code am_big) = true := by decide +kernel
def r_TA_labelOf : List am_Row := r_TA_labelOf_0
def E_TA_labelOf : am_E := (am_G0, (F_TA, N_TA, C_TA), m_TA_labelOf, r_TA_labelOf)
theorem e_TA_labelOf : am_okE E_TA_labelOf := ⟨am_big_good, okT_TA, am_okRow_of ok_TA_labelOf_0⟩
set_option maxRecDepth 100000 in
def r_TA_markingOf_0 : List am_Row := [(0, .iload_n 0, 1, 0, .null), (1, .bipush 9, 3, 0, .int (nI 9)), (3, .ishr, 4, 0, .null), (4, .ireturn, 5, 0, .null)]
set_option maxRecDepth 100000 in
theorem ok_TA_markingOf_0 : r_TA_markingOf_0.all (am_okRowb "TraceAligner" prog_1_method_52_code am_big) = true := by decide +kernel
def r_TA_markingOf : List am_Row := r_TA_markingOf_0
def E_TA_markingOf : am_E := (am_G0, (F_TA, N_TA, C_TA), m_TA_markingOf, r_TA_markingOf)
theorem e_TA_markingOf : am_okE E_TA_markingOf := ⟨am_big_good, okT_TA, am_okRow_of ok_TA_markingOf_0⟩
set_option maxRecDepth 100000 in
def r_IN_numberOfTrailingZeros_0 : List am_Row := [(0, .iload_n 0, 1, 0, .null), (1, .iconst (-1), 2, 0, .int (-1)), (2, .ixor, 3, 0, .null), (3, .iload_n 0, 4, 0, .null), (4, .iconst 1, 5, 0, .int (nI 1)), (5, .isub, 6, 0, .null), (6, .iand, 7, 0, .null), (7, .istore_n 0, 8, 0, .null), (8, .iload_n 0, 9, 0, .null), (9, .ifCond .gt 8, 12, 17, .null), (12, .iload_n 0, 13, 0, .null), (13, .bipush 32, 15, 0, .int (nI 32)), (15, .iand, 16, 0, .null), (16, .ireturn, 17, 0, .null), (17, .iconst 1, 18, 0, .int (nI 1)), (18, .istore_n 1, 19, 0, .null), (19, .iload_n 0, 20, 0, .null), (20, .ldc_w 264, 23, 0, .int (nI 65536)), (23, .if_icmp .le 11, 26, 34, .null), (26, .iinc 1 16, 29, 0, .int (nI 16)), (29, .iload_n 0, 30, 0, .null), (30, .bipush 16, 32, 0, .int (nI 16)), (32, .iushr, 33, 0, .null), (33, .istore_n 0, 34, 0, .null), (34, .iload_n 0, 35, 0, .null), (35, .sipush 256, 38, 0, .int (nI 256)), (38, .if_icmp .le 11, 41, 49, .null), (41, .iinc 1 8, 44, 0, .int (nI 8)), (44, .iload_n 0, 45, 0, .null), (45, .bipush 8, 47, 0, .int (nI 8)), (47, .iushr, 48, 0, .null), (48, .istore_n 0, 49, 0, .null), (49, .iload_n 0, 50, 0, .null), (50, .bipush 16, 52, 0, .int (nI 16)), (52, .if_icmp .le 10, 55, 62, .null), (55, .iinc 1 4, 58, 0, .int (nI 4)), (58, .iload_n 0, 59, 0, .null), (59, .iconst 4, 60, 0, .int (nI 4)), (60, .iushr, 61, 0, .null), (61, .istore_n 0, 62, 0, .null)]
set_option maxRecDepth 100000 in
theorem ok_IN_numberOfTrailingZeros_0 : r_IN_numberOfTrailingZeros_0.all (am_okRowb "java/lang/Integer" prog_12_method_48_code am_big) = true := by decide +kernel
set_option maxRecDepth 100000 in
def r_IN_numberOfTrailingZeros_1 : List am_Row := [(62, .iload_n 0, 63, 0, .null), (63, .iconst 4, 64, 0, .int (nI 4)), (64, .if_icmp .le 10, 67, 74, .null), (67, .iinc 1 2, 70, 0, .int (nI 2)), (70, .iload_n 0, 71, 0, .null), (71, .iconst 2, 72, 0, .int (nI 2)), (72, .iushr, 73, 0, .null), (73, .istore_n 0, 74, 0, .null), (74, .iload_n 1, 75, 0, .null), (75, .iload_n 0, 76, 0, .null), (76, .iconst 1, 77, 0, .int (nI 1)), (77, .iushr, 78, 0, .null), (78, .iadd, 79, 0, .null), (79, .ireturn, 80, 0, .null)]
set_option maxRecDepth 100000 in
theorem ok_IN_numberOfTrailingZeros_1 : r_IN_numberOfTrailingZeros_1.all (am_okRowb "java/lang/Integer" prog_12_method_48_code am_big) = true := by decide +kernel
def r_IN_numberOfTrailingZeros : List am_Row := r_IN_numberOfTrailingZeros_0 ++ (r_IN_numberOfTrailingZeros_1)
def E_IN_numberOfTrailingZeros : am_E := (am_G0, (F_IN, N_IN, C_IN), m_IN_numberOfTrailingZeros, r_IN_numberOfTrailingZeros)
theorem e_IN_numberOfTrailingZeros : am_okE E_IN_numberOfTrailingZeros := ⟨am_big_good, okT_IN, am_okRow_of (am_all_app ok_IN_numberOfTrailingZeros_0 ok_IN_numberOfTrailingZeros_1)⟩
set_option maxRecDepth 100000 in
def r_MA_max_0 : List am_Row := [(0, .iload_n 0, 1, 0, .null), (1, .iload_n 1, 2, 0, .null), (2, .if_icmp .lt 7, 5, 9, .null), (5, .iload_n 0, 6, 0, .null), (6, .goto 4, 9, 10, .null), (9, .iload_n 1, 10, 0, .null), (10, .ireturn, 11, 0, .null)]
set_option maxRecDepth 100000 in
theorem ok_MA_max_0 : r_MA_max_0.all (am_okRowb "java/lang/Math" prog_13_method_65_code am_big) = true := by decide +kernel
def r_MA_max : List am_Row := r_MA_max_0
def E_MA_max : am_E := (am_G0, (F_MA, N_MA, C_MA), m_MA_max, r_MA_max)
theorem e_MA_max : am_okE E_MA_max := ⟨am_big_good, okT_MA, am_okRow_of ok_MA_max_0⟩
set_option maxRecDepth 100000 in
def r_MA_min_0 : List am_Row := [(0, .iload_n 0, 1, 0, .null), (1, .iload_n 1, 2, 0, .null), (2, .if_icmp .gt 7, 5, 9, .null), (5, .iload_n 0, 6, 0, .null), (6, .goto 4, 9, 10, .null), (9, .iload_n 1, 10, 0, .null), (10, .ireturn, 11, 0, .null)]
set_option maxRecDepth 100000 in
theorem ok_MA_min_0 : r_MA_min_0.all (am_okRowb "java/lang/Math" prog_13_method_69_code am_big) = true := by decide +kernel
def r_MA_min : List am_Row := r_MA_min_0
def E_MA_min : am_E := (am_G0, (F_MA, N_MA, C_MA), m_MA_min, r_MA_min)
theorem e_MA_min : am_okE E_MA_min := ⟨am_big_good, okT_MA, am_okRow_of ok_MA_min_0⟩
set_option maxRecDepth 100000 in
def r_AR_fill_0 : List am_Row := [(0, .iconst 0, 1, 0, .int (nI 0)), (1, .istore_n 2, 2, 0, .null), (2, .aload_n 0, 3, 0, .null), (3, .arraylength, 4, 0, .null), (4, .istore_n 3, 5, 0, .null), (5, .iload_n 2, 6, 0, .null), (6, .iload_n 3, 7, 0, .null), (7, .if_icmp .ge 13, 10, 20, .null), (10, .aload_n 0, 11, 0, .null), (11, .iload_n 2, 12, 0, .null), (12, .iload_n 1, 13, 0, .null), (13, .iastore, 14, 0, .null), (14, .iinc 2 1, 17, 0, .int (nI 1)), (17, .goto (-12), 20, 5, .null), (20, .return_, 21, 0, .null)]
set_option maxRecDepth 100000 in
theorem ok_AR_fill_0 : r_AR_fill_0.all (am_okRowb "java/util/Arrays" prog_18_method_103_code am_big) = true := by decide +kernel
def r_AR_fill : List am_Row := r_AR_fill_0
def E_AR_fill : am_E := (am_G0, (F_AR, N_AR, C_AR), m_AR_fill, r_AR_fill)
theorem e_AR_fill : am_okE E_AR_fill := ⟨am_big_good, okT_AR, am_okRow_of ok_AR_fill_0⟩
set_option maxRecDepth 100000 in
def r_LW_below_0 : List am_Row := [(0, .iload_n 0, 1, 0, .null), (1, .ldc 7, 3, 0, .int (nI 2147483647)), (3, .iand, 4, 0, .null), (4, .iload_n 1, 5, 0, .null), (5, .irem, 6, 0, .null), (6, .ireturn, 7, 0, .null)]
set_option maxRecDepth 100000 in
theorem ok_LW_below_0 : r_LW_below_0.all (am_okRowb "TraceAlignerLaw" method_2_code am_big) = true := by decide +kernel
def r_LW_below : List am_Row := r_LW_below_0
def E_LW_below : am_E := (am_G0, (F_LW, N_LW, C_LW), m_LW_below, r_LW_below)
theorem e_LW_below : am_okE E_LW_below := ⟨am_big_good, okT_LW, am_okRow_of ok_LW_below_0⟩
set_option maxRecDepth 100000 in
def r_LW_cell_0 : List am_Row := [(0, .iload_n 1, 1, 0, .null), (1, .aload_n 0, 2, 0, .null), (2, .arraylength, 3, 0, .null), (3, .if_icmp .ge 9, 6, 12, .null), (6, .aload_n 0, 7, 0, .null), (7, .iload_n 1, 8, 0, .null), (8, .iaload, 9, 0, .null), (9, .goto 9, 12, 18, .null), (12, .ldc 8, 14, 0, .int (nI 790386105)), (14, .iload_n 1, 15, 0, .null), (15, .iconst 3, 16, 0, .int (nI 3)), (16, .iadd, 17, 0, .null), (17, .imul, 18, 0, .null), (18, .ireturn, 19, 0, .null)]
set_option maxRecDepth 100000 in
theorem ok_LW_cell_0 : r_LW_cell_0.all (am_okRowb "TraceAlignerLaw" method_3_code am_big) = true := by decide +kernel
def r_LW_cell : List am_Row := r_LW_cell_0
def E_LW_cell : am_E := (am_G0, (F_LW, N_LW, C_LW), m_LW_cell, r_LW_cell)
theorem e_LW_cell : am_okE E_LW_cell := ⟨am_big_good, okT_LW, am_okRow_of ok_LW_cell_0⟩
set_option maxRecDepth 100000 in
def r_LW_build_0 : List am_Row := [(0, .aload_n 3, 1, 0, .null), (1, .iconst 0, 2, 0, .int (nI 0)), (2, .iconst 1, 3, 0, .int (nI 1)), (3, .aload_n 1, 4, 0, .null), (4, .iload_n 2, 5, 0, .null), (5, .invokestatic 9, 8, 0, .null), (8, .iconst 4, 9, 0, .int (nI 4)), (9, .invokestatic 15, 12, 0, .null), (12, .iadd, 13, 0, .null), (13, .iastore, 14, 0, .null), (14, .aload_n 3, 15, 0, .null), (15, .iconst 1, 16, 0, .int (nI 1)), (16, .aload_n 1, 17, 0, .null), (17, .iload_n 2, 18, 0, .null), (18, .invokestatic 9, 21, 0, .null), (21, .iconst 3, 22, 0, .int (nI 3)), (22, .ishr, 23, 0, .null), (23, .bipush 7, 25, 0, .int (nI 7)), (25, .invokestatic 15, 28, 0, .null), (28, .iastore, 29, 0, .null), (29, .iconst 0, 30, 0, .int (nI 0)), (30, .istore 6, 32, 0, .null), (32, .iload 6, 34, 0, .null), (34, .aload_n 3, 35, 0, .null), (35, .iconst 0, 36, 0, .int (nI 0)), (36, .iaload, 37, 0, .null), (37, .if_icmp .ge 165, 40, 202, .null), (40, .aload_n 0, 41, 0, .null), (41, .invokevirtual 19, 44, 0, .null), (44, .iload 6, 46, 0, .null), (46, .if_icmp .eq 5, 49, 51, .null), (49, .iconst 0, 50, 0, .int (nI 0)), (50, .ireturn, 51, 0, .null), (51, .aload_n 1, 52, 0, .null), (52, .iload_n 2, 53, 0, .null), (53, .invokestatic 9, 56, 0, .null), (56, .bipush 6, 58, 0, .int (nI 6)), (58, .ishr, 59, 0, .null), (59, .iconst 3, 60, 0, .int (nI 3)), (60, .invokestatic 15, 63, 0, .null)]
set_option maxRecDepth 100000 in
theorem ok_LW_build_0 : r_LW_build_0.all (am_okRowb "TraceAlignerLaw" method_4_code am_big) = true := by decide +kernel
set_option maxRecDepth 100000 in
def r_LW_build_1 : List am_Row := [(63, .ifCond .le 7, 66, 70, .null), (66, .iconst 1, 67, 0, .int (nI 1)), (67, .goto 4, 70, 71, .null), (70, .iconst 0, 71, 0, .int (nI 0)), (71, .istore 7, 73, 0, .null), (73, .aload 5, 75, 0, .null), (75, .iload 6, 77, 0, .null), (77, .iload 7, 79, 0, .null), (79, .ifCond .eq 16, 82, 95, .null), (82, .iload 6, 84, 0, .null), (84, .ifCond .ne 7, 87, 91, .null), (87, .iconst 1, 88, 0, .int (nI 1)), (88, .goto 24, 91, 112, .null), (91, .iconst 0, 92, 0, .int (nI 0)), (92, .goto 20, 95, 112, .null), (95, .aload_n 1, 96, 0, .null), (96, .iload_n 2, 97, 0, .null), (97, .invokestatic 9, 100, 0, .null), (100, .bipush 8, 102, 0, .int (nI 8)), (102, .iconst 2, 103, 0, .int (nI 2)), (103, .iload 6, 105, 0, .null), (105, .imul, 106, 0, .null), (106, .iadd, 107, 0, .null), (107, .ishr, 108, 0, .null), (108, .iconst 3, 109, 0, .int (nI 3)), (109, .invokestatic 15, 112, 0, .null), (112, .iastore, 113, 0, .null), (113, .aload 5, 115, 0, .null), (115, .bipush 8, 117, 0, .int (nI 8)), (117, .iload 6, 119, 0, .null), (119, .iadd, 120, 0, .null), (120, .iload 7, 122, 0, .null), (122, .ifCond .eq 21, 125, 143, .null), (125, .iload 6, 127, 0, .null), (127, .aload_n 3, 128, 0, .null), (128, .iconst 0, 129, 0, .int (nI 0)), (129, .iaload, 130, 0, .null), (130, .iconst 1, 131, 0, .int (nI 1)), (131, .isub, 132, 0, .null), (132, .if_icmp .ne 7, 135, 139, .null)]
set_option maxRecDepth 100000 in
theorem ok_LW_build_1 : r_LW_build_1.all (am_okRowb "TraceAlignerLaw" method_4_code am_big) = true := by decide +kernel
set_option maxRecDepth 100000 in
def r_LW_build_2 : List am_Row := [(135, .iconst 1, 136, 0, .int (nI 1)), (136, .goto 24, 139, 160, .null), (139, .iconst 0, 140, 0, .int (nI 0)), (140, .goto 20, 143, 160, .null), (143, .aload_n 1, 144, 0, .null), (144, .iload_n 2, 145, 0, .null), (145, .invokestatic 9, 148, 0, .null), (148, .bipush 16, 150, 0, .int (nI 16)), (150, .iconst 2, 151, 0, .int (nI 2)), (151, .iload 6, 153, 0, .null), (153, .imul, 154, 0, .null), (154, .iadd, 155, 0, .null), (155, .ishr, 156, 0, .null), (156, .iconst 2, 157, 0, .int (nI 2)), (157, .invokestatic 15, 160, 0, .null), (160, .iastore, 161, 0, .null), (161, .aload_n 0, 162, 0, .null), (162, .iload 6, 164, 0, .null), (164, .aload 5, 166, 0, .null), (166, .iload 6, 168, 0, .null), (168, .iaload, 169, 0, .null), (169, .iconst 0, 170, 0, .int (nI 0)), (170, .invokevirtual 25, 173, 0, .null), (173, .ifCond .ne 21, 176, 194, .null), (176, .aload_n 0, 177, 0, .null), (177, .iload 6, 179, 0, .null), (179, .aload 5, 181, 0, .null), (181, .bipush 8, 183, 0, .int (nI 8)), (183, .iload 6, 185, 0, .null), (185, .iadd, 186, 0, .null), (186, .iaload, 187, 0, .null), (187, .iconst 1, 188, 0, .int (nI 1)), (188, .invokevirtual 25, 191, 0, .null), (191, .ifCond .eq 5, 194, 196, .null), (194, .iconst 0, 195, 0, .int (nI 0)), (195, .ireturn, 196, 0, .null), (196, .iinc 6 1, 199, 0, .int (nI 1)), (199, .goto (-167), 202, 32, .null), (202, .iconst 0, 203, 0, .int (nI 0)), (203, .istore 6, 205, 0, .null)]
set_option maxRecDepth 100000 in
theorem ok_LW_build_2 : r_LW_build_2.all (am_okRowb "TraceAlignerLaw" method_4_code am_big) = true := by decide +kernel
set_option maxRecDepth 100000 in
def r_LW_build_3 : List am_Row := [(205, .iload 6, 207, 0, .null), (207, .aload_n 3, 208, 0, .null), (208, .iconst 1, 209, 0, .int (nI 1)), (209, .iaload, 210, 0, .null), (210, .if_icmp .ge 359, 213, 569, .null), (213, .aload_n 1, 214, 0, .null), (214, .iload_n 2, 215, 0, .null), (215, .iconst 1, 216, 0, .int (nI 1)), (216, .iadd, 217, 0, .null), (217, .iload 6, 219, 0, .null), (219, .iadd, 220, 0, .null), (220, .invokestatic 9, 223, 0, .null), (223, .istore 7, 225, 0, .null), (225, .aload 4, 227, 0, .null), (227, .iconst 4, 228, 0, .int (nI 4)), (228, .iload 6, 230, 0, .null), (230, .imul, 231, 0, .null), (231, .iload 7, 233, 0, .null), (233, .iconst 5, 234, 0, .int (nI 5)), (234, .invokestatic 15, 237, 0, .null), (237, .ifCond .ne 7, 240, 244, .null), (240, .iconst (-1), 241, 0, .int (-1)), (241, .goto 11, 244, 252, .null), (244, .iload 7, 246, 0, .null), (246, .iconst 3, 247, 0, .int (nI 3)), (247, .ishr, 248, 0, .null), (248, .iconst 3, 249, 0, .int (nI 3)), (249, .invokestatic 15, 252, 0, .null), (252, .iastore, 253, 0, .null), (253, .aload 4, 255, 0, .null), (255, .iconst 4, 256, 0, .int (nI 4)), (256, .iload 6, 258, 0, .null), (258, .imul, 259, 0, .null), (259, .iconst 1, 260, 0, .int (nI 1)), (260, .iadd, 261, 0, .null), (261, .aload 4, 263, 0, .null), (263, .iconst 4, 264, 0, .int (nI 4)), (264, .iload 6, 266, 0, .null), (266, .imul, 267, 0, .null), (267, .iaload, 268, 0, .null)]
set_option maxRecDepth 100000 in
theorem ok_LW_build_3 : r_LW_build_3.all (am_okRowb "TraceAlignerLaw" method_4_code am_big) = true := by decide +kernel
set_option maxRecDepth 100000 in
def r_LW_build_4 : List am_Row := [(268, .ifCond .ge 7, 271, 275, .null), (271, .iconst 0, 272, 0, .int (nI 0)), (272, .goto 4, 275, 276, .null), (275, .iconst 1, 276, 0, .int (nI 1)), (276, .iastore, 277, 0, .null), (277, .aload 4, 279, 0, .null), (279, .iconst 4, 280, 0, .int (nI 4)), (280, .iload 6, 282, 0, .null), (282, .imul, 283, 0, .null), (283, .iconst 2, 284, 0, .int (nI 2)), (284, .iadd, 285, 0, .null), (285, .iconst 1, 286, 0, .int (nI 1)), (286, .iload 7, 288, 0, .null), (288, .iconst 5, 289, 0, .int (nI 5)), (289, .ishr, 290, 0, .null), (290, .aload_n 3, 291, 0, .null), (291, .iconst 0, 292, 0, .int (nI 0)), (292, .iaload, 293, 0, .null), (293, .invokestatic 15, 296, 0, .null), (296, .ishl, 297, 0, .null), (297, .iload 7, 299, 0, .null), (299, .bipush 7, 301, 0, .int (nI 7)), (301, .ishr, 302, 0, .null), (302, .iconst 5, 303, 0, .int (nI 5)), (303, .invokestatic 15, 306, 0, .null), (306, .ifCond .ne 19, 309, 325, .null), (309, .iconst 1, 310, 0, .int (nI 1)), (310, .iload 7, 312, 0, .null), (312, .bipush 9, 314, 0, .int (nI 9)), (314, .ishr, 315, 0, .null), (315, .aload_n 3, 316, 0, .null), (316, .iconst 0, 317, 0, .int (nI 0)), (317, .iaload, 318, 0, .null), (318, .invokestatic 15, 321, 0, .null), (321, .ishl, 322, 0, .null), (322, .goto 4, 325, 326, .null), (325, .iconst 0, 326, 0, .int (nI 0)), (326, .ior, 327, 0, .null), (327, .iastore, 328, 0, .null), (328, .aload 4, 330, 0, .null)]
set_option maxRecDepth 100000 in
theorem ok_LW_build_4 : r_LW_build_4.all (am_okRowb "TraceAlignerLaw" method_4_code am_big) = true := by decide +kernel
set_option maxRecDepth 100000 in
def r_LW_build_5 : List am_Row := [(330, .iconst 4, 331, 0, .int (nI 4)), (331, .iload 6, 333, 0, .null), (333, .imul, 334, 0, .null), (334, .iconst 3, 335, 0, .int (nI 3)), (335, .iadd, 336, 0, .null), (336, .iconst 1, 337, 0, .int (nI 1)), (337, .iload 7, 339, 0, .null), (339, .bipush 11, 341, 0, .int (nI 11)), (341, .ishr, 342, 0, .null), (342, .aload_n 3, 343, 0, .null), (343, .iconst 0, 344, 0, .int (nI 0)), (344, .iaload, 345, 0, .null), (345, .invokestatic 15, 348, 0, .null), (348, .ishl, 349, 0, .null), (349, .iload 7, 351, 0, .null), (351, .bipush 13, 353, 0, .int (nI 13)), (353, .ishr, 354, 0, .null), (354, .iconst 5, 355, 0, .int (nI 5)), (355, .invokestatic 15, 358, 0, .null), (358, .ifCond .ne 19, 361, 377, .null), (361, .iconst 1, 362, 0, .int (nI 1)), (362, .iload 7, 364, 0, .null), (364, .bipush 15, 366, 0, .int (nI 15)), (366, .ishr, 367, 0, .null), (367, .aload_n 3, 368, 0, .null), (368, .iconst 0, 369, 0, .int (nI 0)), (369, .iaload, 370, 0, .null), (370, .invokestatic 15, 373, 0, .null), (373, .ishl, 374, 0, .null), (374, .goto 4, 377, 378, .null), (377, .iconst 0, 378, 0, .int (nI 0)), (378, .ior, 379, 0, .null), (379, .iastore, 380, 0, .null), (380, .iload 7, 382, 0, .null), (382, .bipush 17, 384, 0, .int (nI 17)), (384, .ishr, 385, 0, .null), (385, .bipush 12, 387, 0, .int (nI 12)), (387, .invokestatic 15, 390, 0, .null), (390, .ifCond .ne 13, 393, 403, .null), (393, .aload 4, 395, 0, .null)]
set_option maxRecDepth 100000 in
theorem ok_LW_build_5 : r_LW_build_5.all (am_okRowb "TraceAlignerLaw" method_4_code am_big) = true := by decide +kernel
set_option maxRecDepth 100000 in
def r_LW_build_6 : List am_Row := [(395, .iconst 4, 396, 0, .int (nI 4)), (396, .iload 6, 398, 0, .null), (398, .imul, 399, 0, .null), (399, .iconst 3, 400, 0, .int (nI 3)), (400, .iadd, 401, 0, .null), (401, .iconst 0, 402, 0, .int (nI 0)), (402, .iastore, 403, 0, .null), (403, .aload_n 0, 404, 0, .null), (404, .aload 4, 406, 0, .null), (406, .iconst 4, 407, 0, .int (nI 4)), (407, .iload 6, 409, 0, .null), (409, .imul, 410, 0, .null), (410, .iaload, 411, 0, .null), (411, .invokevirtual 29, 414, 0, .null), (414, .iload 6, 416, 0, .null), (416, .if_icmp .eq 5, 419, 421, .null), (419, .iconst 0, 420, 0, .int (nI 0)), (420, .ireturn, 421, 0, .null), (421, .iconst 0, 422, 0, .int (nI 0)), (422, .istore 8, 424, 0, .null), (424, .iload 8, 426, 0, .null), (426, .aload_n 3, 427, 0, .null), (427, .iconst 0, 428, 0, .int (nI 0)), (428, .iaload, 429, 0, .null), (429, .if_icmp .ge 75, 432, 504, .null), (432, .aload 4, 434, 0, .null), (434, .iconst 4, 435, 0, .int (nI 4)), (435, .iload 6, 437, 0, .null), (437, .imul, 438, 0, .null), (438, .iconst 2, 439, 0, .int (nI 2)), (439, .iadd, 440, 0, .null), (440, .iaload, 441, 0, .null), (441, .iload 8, 443, 0, .null), (443, .ishr, 444, 0, .null), (444, .iconst 1, 445, 0, .int (nI 1)), (445, .iand, 446, 0, .null), (446, .iconst 1, 447, 0, .int (nI 1)), (447, .if_icmp .ne 18, 450, 465, .null), (450, .aload_n 0, 451, 0, .null), (451, .iload 6, 453, 0, .null)]
set_option maxRecDepth 100000 in
theorem ok_LW_build_6 : r_LW_build_6.all (am_okRowb "TraceAlignerLaw" method_4_code am_big) = true := by decide +kernel
set_option maxRecDepth 100000 in
def r_LW_build_7 : List am_Row := [(453, .iload 8, 455, 0, .null), (455, .iconst 1, 456, 0, .int (nI 1)), (456, .iconst 1, 457, 0, .int (nI 1)), (457, .invokevirtual 33, 460, 0, .null), (460, .ifCond .eq 5, 463, 465, .null), (463, .iconst 0, 464, 0, .int (nI 0)), (464, .ireturn, 465, 0, .null), (465, .aload 4, 467, 0, .null), (467, .iconst 4, 468, 0, .int (nI 4)), (468, .iload 6, 470, 0, .null), (470, .imul, 471, 0, .null), (471, .iconst 3, 472, 0, .int (nI 3)), (472, .iadd, 473, 0, .null), (473, .iaload, 474, 0, .null), (474, .iload 8, 476, 0, .null), (476, .ishr, 477, 0, .null), (477, .iconst 1, 478, 0, .int (nI 1)), (478, .iand, 479, 0, .null), (479, .iconst 1, 480, 0, .int (nI 1)), (480, .if_icmp .ne 18, 483, 498, .null), (483, .aload_n 0, 484, 0, .null), (484, .iload 6, 486, 0, .null), (486, .iload 8, 488, 0, .null), (488, .iconst 0, 489, 0, .int (nI 0)), (489, .iconst 1, 490, 0, .int (nI 1)), (490, .invokevirtual 33, 493, 0, .null), (493, .ifCond .eq 5, 496, 498, .null), (496, .iconst 0, 497, 0, .int (nI 0)), (497, .ireturn, 498, 0, .null), (498, .iinc 8 1, 501, 0, .int (nI 1)), (501, .goto (-77), 504, 424, .null), (504, .iload 7, 506, 0, .null), (506, .bipush 18, 508, 0, .int (nI 18)), (508, .ishr, 509, 0, .null), (509, .iconst 4, 510, 0, .int (nI 4)), (510, .invokestatic 15, 513, 0, .null), (513, .ifCond .le 6, 516, 519, .null), (516, .goto 47, 519, 563, .null), (519, .iload 7, 521, 0, .null), (521, .bipush 20, 523, 0, .int (nI 20))]
set_option maxRecDepth 100000 in
theorem ok_LW_build_7 : r_LW_build_7.all (am_okRowb "TraceAlignerLaw" method_4_code am_big) = true := by decide +kernel
set_option maxRecDepth 100000 in
def r_LW_build_8 : List am_Row := [(523, .ishr, 524, 0, .null), (524, .iconst 4, 525, 0, .int (nI 4)), (525, .invokestatic 15, 528, 0, .null), (528, .istore 8, 530, 0, .null), (530, .aload_n 0, 531, 0, .null), (531, .iload 6, 533, 0, .null), (533, .iload 8, 535, 0, .null), (535, .invokevirtual 37, 538, 0, .null), (538, .aload 4, 540, 0, .null), (540, .iconst 4, 541, 0, .int (nI 4)), (541, .iload 6, 543, 0, .null), (543, .imul, 544, 0, .null), (544, .iconst 1, 545, 0, .int (nI 1)), (545, .iadd, 546, 0, .null), (546, .iaload, 547, 0, .null), (547, .if_icmp .eq 5, 550, 552, .null), (550, .iconst 0, 551, 0, .int (nI 0)), (551, .ireturn, 552, 0, .null), (552, .aload 4, 554, 0, .null), (554, .iconst 4, 555, 0, .int (nI 4)), (555, .iload 6, 557, 0, .null), (557, .imul, 558, 0, .null), (558, .iconst 1, 559, 0, .int (nI 1)), (559, .iadd, 560, 0, .null), (560, .iload 8, 562, 0, .null), (562, .iastore, 563, 0, .null), (563, .iinc 6 1, 566, 0, .int (nI 1)), (566, .goto (-361), 569, 205, .null), (569, .aload_n 0, 570, 0, .null), (570, .iconst 0, 571, 0, .int (nI 0)), (571, .invokevirtual 40, 574, 0, .null), (574, .aload_n 3, 575, 0, .null), (575, .iconst 0, 576, 0, .int (nI 0)), (576, .iaload, 577, 0, .null), (577, .if_icmp .ne 18, 580, 595, .null), (580, .aload_n 0, 581, 0, .null), (581, .iconst 1, 582, 0, .int (nI 1)), (582, .invokevirtual 40, 585, 0, .null), (585, .aload_n 3, 586, 0, .null), (586, .iconst 1, 587, 0, .int (nI 1))]
set_option maxRecDepth 100000 in
theorem ok_LW_build_8 : r_LW_build_8.all (am_okRowb "TraceAlignerLaw" method_4_code am_big) = true := by decide +kernel
set_option maxRecDepth 100000 in
def r_LW_build_9 : List am_Row := [(587, .iaload, 588, 0, .null), (588, .if_icmp .ne 7, 591, 595, .null), (591, .iconst 1, 592, 0, .int (nI 1)), (592, .goto 4, 595, 596, .null), (595, .iconst 0, 596, 0, .int (nI 0)), (596, .ireturn, 597, 0, .null)]
set_option maxRecDepth 100000 in
theorem ok_LW_build_9 : r_LW_build_9.all (am_okRowb "TraceAlignerLaw" method_4_code am_big) = true := by decide +kernel
def r_LW_build : List am_Row := r_LW_build_0 ++ (r_LW_build_1 ++ (r_LW_build_2 ++ (r_LW_build_3 ++ (r_LW_build_4 ++ (r_LW_build_5 ++ (r_LW_build_6 ++ (r_LW_build_7 ++ (r_LW_build_8 ++ (r_LW_build_9)))))))))
def E_LW_build : am_E := (am_G0, (F_LW, N_LW, C_LW), m_LW_build, r_LW_build)
theorem e_LW_build : am_okE E_LW_build := ⟨am_big_good, okT_LW, am_okRow_of (am_all_app ok_LW_build_0 (am_all_app ok_LW_build_1 (am_all_app ok_LW_build_2 (am_all_app ok_LW_build_3 (am_all_app ok_LW_build_4 (am_all_app ok_LW_build_5 (am_all_app ok_LW_build_6 (am_all_app ok_LW_build_7 (am_all_app ok_LW_build_8 ok_LW_build_9)))))))))⟩
set_option maxRecDepth 100000 in
def r_LW_traces_0 : List am_Row := [(0, .iconst 1, 1, 0, .int (nI 1)), (1, .aload_n 1, 2, 0, .null), (2, .iload_n 2, 3, 0, .null), (3, .invokestatic 9, 6, 0, .null), (6, .iload_n 3, 7, 0, .null), (7, .invokestatic 15, 10, 0, .null), (10, .iadd, 11, 0, .null), (11, .istore 6, 13, 0, .null), (13, .iconst 0, 14, 0, .int (nI 0)), (14, .istore 7, 16, 0, .null), (16, .iload 7, 18, 0, .null), (18, .iload 6, 20, 0, .null), (20, .if_icmp .ge 142, 23, 162, .null), (23, .aload_n 1, 24, 0, .null), (24, .iload_n 2, 25, 0, .null), (25, .iconst 1, 26, 0, .int (nI 1)), (26, .iadd, 27, 0, .null), (27, .iload 7, 29, 0, .null), (29, .iadd, 30, 0, .null), (30, .invokestatic 9, 33, 0, .null), (33, .istore 8, 35, 0, .null), (35, .aload 4, 37, 0, .null), (37, .iload 7, 39, 0, .null), (39, .iload 8, 41, 0, .null), (41, .bipush 6, 43, 0, .int (nI 6)), (43, .invokestatic 15, 46, 0, .null), (46, .newarray .int, 48, 0, .null), (48, .aastore, 49, 0, .null), (49, .iconst 0, 50, 0, .int (nI 0)), (50, .istore 9, 52, 0, .null), (52, .iload 9, 54, 0, .null), (54, .aload 4, 56, 0, .null), (56, .iload 7, 58, 0, .null), (58, .aaload, 59, 0, .null), (59, .arraylength, 60, 0, .null), (60, .if_icmp .ge 51, 63, 111, .null), (63, .aload 4, 65, 0, .null), (65, .iload 7, 67, 0, .null), (67, .aaload, 68, 0, .null), (68, .iload 9, 70, 0, .null)]
set_option maxRecDepth 100000 in
theorem ok_LW_traces_0 : r_LW_traces_0.all (am_okRowb "TraceAlignerLaw" method_5_code am_big) = true := by decide +kernel
set_option maxRecDepth 100000 in
def r_LW_traces_1 : List am_Row := [(70, .iload 8, 72, 0, .null), (72, .iconst 3, 73, 0, .int (nI 3)), (73, .iconst 3, 74, 0, .int (nI 3)), (74, .iload 9, 76, 0, .null), (76, .imul, 77, 0, .null), (77, .iadd, 78, 0, .null), (78, .ishr, 79, 0, .null), (79, .iconst 3, 80, 0, .int (nI 3)), (80, .invokestatic 15, 83, 0, .null), (83, .iastore, 84, 0, .null), (84, .aload_n 0, 85, 0, .null), (85, .aload 4, 87, 0, .null), (87, .iload 7, 89, 0, .null), (89, .aaload, 90, 0, .null), (90, .iload 9, 92, 0, .null), (92, .iaload, 93, 0, .null), (93, .invokevirtual 43, 96, 0, .null), (96, .iload 9, 98, 0, .null), (98, .iconst 1, 99, 0, .int (nI 1)), (99, .iadd, 100, 0, .null), (100, .if_icmp .eq 5, 103, 105, .null), (103, .iconst (-1), 104, 0, .int (-1)), (104, .ireturn, 105, 0, .null), (105, .iinc 9 1, 108, 0, .int (nI 1)), (108, .goto (-56), 111, 52, .null), (111, .aload 5, 113, 0, .null), (113, .iload 7, 115, 0, .null), (115, .iload 8, 117, 0, .null), (117, .bipush 20, 119, 0, .int (nI 20)), (119, .ishr, 120, 0, .null), (120, .iconst 5, 121, 0, .int (nI 5)), (121, .invokestatic 15, 124, 0, .null), (124, .iastore, 125, 0, .null), (125, .aload_n 0, 126, 0, .null), (126, .aload 5, 128, 0, .null), (128, .iload 7, 130, 0, .null), (130, .iaload, 131, 0, .null), (131, .invokevirtual 46, 134, 0, .null), (134, .iload 7, 136, 0, .null), (136, .if_icmp .ne 18, 139, 154, .null)]
set_option maxRecDepth 100000 in
theorem ok_LW_traces_1 : r_LW_traces_1.all (am_okRowb "TraceAlignerLaw" method_5_code am_big) = true := by decide +kernel
set_option maxRecDepth 100000 in
def r_LW_traces_2 : List am_Row := [(139, .aload_n 0, 140, 0, .null), (140, .iload 7, 142, 0, .null), (142, .invokevirtual 49, 145, 0, .null), (145, .aload 4, 147, 0, .null), (147, .iload 7, 149, 0, .null), (149, .aaload, 150, 0, .null), (150, .arraylength, 151, 0, .null), (151, .if_icmp .eq 5, 154, 156, .null), (154, .iconst (-1), 155, 0, .int (-1)), (155, .ireturn, 156, 0, .null), (156, .iinc 7 1, 159, 0, .int (nI 1)), (159, .goto (-143), 162, 16, .null), (162, .aload_n 0, 163, 0, .null), (163, .iconst 2, 164, 0, .int (nI 2)), (164, .invokevirtual 40, 167, 0, .null), (167, .iload 6, 169, 0, .null), (169, .if_icmp .ne 8, 172, 177, .null), (172, .iload 6, 174, 0, .null), (174, .goto 4, 177, 178, .null), (177, .iconst (-1), 178, 0, .int (-1)), (178, .ireturn, 179, 0, .null)]
set_option maxRecDepth 100000 in
theorem ok_LW_traces_2 : r_LW_traces_2.all (am_okRowb "TraceAlignerLaw" method_5_code am_big) = true := by decide +kernel
def r_LW_traces : List am_Row := r_LW_traces_0 ++ (r_LW_traces_1 ++ (r_LW_traces_2))
def E_LW_traces : am_E := (am_G0, (F_LW, N_LW, C_LW), m_LW_traces, r_LW_traces)
theorem e_LW_traces : am_okE E_LW_traces := ⟨am_big_good, okT_LW, am_okRow_of (am_all_app ok_LW_traces_0 (am_all_app ok_LW_traces_1 ok_LW_traces_2))⟩
set_option maxRecDepth 100000 in
def r_LW_law_0 : List am_Row := [(0, .new 20, 3, 0, .null), (3, .dup, 4, 0, .null), (4, .invokespecial 52, 7, 0, .null), (7, .astore_n 1, 8, 0, .null), (8, .iconst 2, 9, 0, .int (nI 2)), (9, .newarray .int, 11, 0, .null), (11, .astore_n 2, 12, 0, .null), (12, .bipush 40, 14, 0, .int (nI 40)), (14, .newarray .int, 16, 0, .null), (16, .astore_n 3, 17, 0, .null), (17, .bipush 8, 19, 0, .int (nI 8)), (19, .anewarray 53, 22, 0, .null), (22, .astore 4, 24, 0, .null), (24, .aload_n 1, 25, 0, .null), (25, .aload_n 0, 26, 0, .null), (26, .iconst 0, 27, 0, .int (nI 0)), (27, .aload_n 2, 28, 0, .null), (28, .aload_n 3, 29, 0, .null), (29, .bipush 16, 31, 0, .int (nI 16)), (31, .newarray .int, 33, 0, .null), (33, .invokestatic 55, 36, 0, .null), (36, .ifCond .ne 5, 39, 41, .null), (39, .iconst 0, 40, 0, .int (nI 0)), (40, .ireturn, 41, 0, .null), (41, .aload_n 1, 42, 0, .null), (42, .aload_n 0, 43, 0, .null), (43, .bipush 9, 45, 0, .int (nI 9)), (45, .iconst 3, 46, 0, .int (nI 3)), (46, .aload 4, 48, 0, .null), (48, .bipush 8, 50, 0, .int (nI 8)), (50, .newarray .int, 52, 0, .null), (52, .invokestatic 59, 55, 0, .null), (55, .istore 5, 57, 0, .null), (57, .iload 5, 59, 0, .null), (59, .ifCond .ge 5, 62, 64, .null), (62, .iconst 0, 63, 0, .int (nI 0)), (63, .ireturn, 64, 0, .null), (64, .aload_n 1, 65, 0, .null), (65, .invokevirtual 63, 68, 0, .null), (68, .ifCond .ge 5, 71, 73, .null)]
set_option maxRecDepth 100000 in
theorem ok_LW_law_0 : r_LW_law_0.all (am_okRowb "TraceAlignerLaw" code am_big) = true := by decide +kernel
set_option maxRecDepth 100000 in
def r_LW_law_1 : List am_Row := [(71, .iconst 1, 72, 0, .int (nI 1)), (72, .ireturn, 73, 0, .null), (73, .aload_n 1, 74, 0, .null), (74, .invokevirtual 66, 77, 0, .null), (77, .ifCond .lt 7, 80, 84, .null), (80, .iconst 1, 81, 0, .int (nI 1)), (81, .goto 4, 84, 85, .null), (84, .iconst 0, 85, 0, .int (nI 0)), (85, .istore 6, 87, 0, .null), (87, .iconst 0, 88, 0, .int (nI 0)), (88, .istore 7, 90, 0, .null), (90, .iload 7, 92, 0, .null), (92, .iload 5, 94, 0, .null), (94, .if_icmp .ge 321, 97, 415, .null), (97, .aload_n 1, 98, 0, .null), (98, .iload 7, 100, 0, .null), (100, .invokevirtual 69, 103, 0, .null), (103, .ifCond .lt 7, 106, 110, .null), (106, .iconst 1, 107, 0, .int (nI 1)), (107, .goto 4, 110, 111, .null), (110, .iconst 0, 111, 0, .int (nI 0)), (111, .iload 6, 113, 0, .null), (113, .if_icmp .eq 5, 116, 118, .null), (116, .iconst 0, 117, 0, .int (nI 0)), (117, .ireturn, 118, 0, .null), (118, .iload 6, 120, 0, .null), (120, .ifCond .ne 6, 123, 126, .null), (123, .goto 286, 126, 409, .null), (126, .iconst 0, 127, 0, .int (nI 0)), (127, .istore 8, 129, 0, .null), (129, .iconst 0, 130, 0, .int (nI 0)), (130, .istore 9, 132, 0, .null), (132, .iconst 0, 133, 0, .int (nI 0)), (133, .istore 10, 135, 0, .null), (135, .iconst 0, 136, 0, .int (nI 0)), (136, .istore 11, 138, 0, .null), (138, .iload 11, 140, 0, .null), (140, .aload_n 1, 141, 0, .null), (141, .iload 7, 143, 0, .null), (143, .invokevirtual 69, 146, 0, .null)]
set_option maxRecDepth 100000 in
theorem ok_LW_law_1 : r_LW_law_1.all (am_okRowb "TraceAlignerLaw" code am_big) = true := by decide +kernel
set_option maxRecDepth 100000 in
def r_LW_law_2 : List am_Row := [(146, .if_icmp .ge 191, 149, 337, .null), (149, .aload_n 1, 150, 0, .null), (150, .iload 7, 152, 0, .null), (152, .iload 11, 154, 0, .null), (154, .iconst 0, 155, 0, .int (nI 0)), (155, .invokevirtual 72, 158, 0, .null), (158, .istore 12, 160, 0, .null), (160, .aload_n 1, 161, 0, .null), (161, .iload 7, 163, 0, .null), (163, .iload 11, 165, 0, .null), (165, .iconst 1, 166, 0, .int (nI 1)), (166, .invokevirtual 72, 169, 0, .null), (169, .istore 13, 171, 0, .null), (171, .aload_n 1, 172, 0, .null), (172, .iload 7, 174, 0, .null), (174, .iload 11, 176, 0, .null), (176, .iconst 3, 177, 0, .int (nI 3)), (177, .invokevirtual 72, 180, 0, .null), (180, .iload 8, 182, 0, .null), (182, .if_icmp .ne 40, 185, 222, .null), (185, .iload 12, 187, 0, .null), (187, .iconst 2, 188, 0, .int (nI 2)), (188, .if_icmp .ge 36, 191, 224, .null), (191, .iload 9, 193, 0, .null), (193, .aload 4, 195, 0, .null), (195, .iload 7, 197, 0, .null), (197, .aaload, 198, 0, .null), (198, .arraylength, 199, 0, .null), (199, .if_icmp .ge 23, 202, 222, .null), (202, .aload_n 1, 203, 0, .null), (203, .iload 7, 205, 0, .null), (205, .iload 11, 207, 0, .null), (207, .iconst 2, 208, 0, .int (nI 2)), (208, .invokevirtual 72, 211, 0, .null), (211, .aload 4, 213, 0, .null), (213, .iload 7, 215, 0, .null), (215, .aaload, 216, 0, .null), (216, .iload 9, 218, 0, .null), (218, .iaload, 219, 0, .null), (219, .if_icmp .eq 5, 222, 224, .null)]
set_option maxRecDepth 100000 in
theorem ok_LW_law_2 : r_LW_law_2.all (am_okRowb "TraceAlignerLaw" code am_big) = true := by decide +kernel
set_option maxRecDepth 100000 in
def r_LW_law_3 : List am_Row := [(222, .iconst 0, 223, 0, .int (nI 0)), (223, .ireturn, 224, 0, .null), (224, .iload 12, 226, 0, .null), (226, .ifCond .ne 22, 229, 248, .null), (229, .aload_n 3, 230, 0, .null), (230, .iconst 4, 231, 0, .int (nI 4)), (231, .iload 13, 233, 0, .null), (233, .imul, 234, 0, .null), (234, .iaload, 235, 0, .null), (235, .aload 4, 237, 0, .null), (237, .iload 7, 239, 0, .null), (239, .aaload, 240, 0, .null), (240, .iload 9, 242, 0, .null), (242, .iaload, 243, 0, .null), (243, .if_icmp .eq 5, 246, 248, .null), (246, .iconst 0, 247, 0, .int (nI 0)), (247, .ireturn, 248, 0, .null), (248, .iload 10, 250, 0, .null), (250, .iload 12, 252, 0, .null), (252, .ifCond .ne 7, 255, 259, .null), (255, .iconst 0, 256, 0, .int (nI 0)), (256, .goto 21, 259, 277, .null), (259, .iload 12, 261, 0, .null), (261, .iconst 1, 262, 0, .int (nI 1)), (262, .if_icmp .ne 7, 265, 269, .null), (265, .iconst 1, 266, 0, .int (nI 1)), (266, .goto 11, 269, 277, .null), (269, .aload_n 3, 270, 0, .null), (270, .iconst 4, 271, 0, .int (nI 4)), (271, .iload 13, 273, 0, .null), (273, .imul, 274, 0, .null), (274, .iconst 1, 275, 0, .int (nI 1)), (275, .iadd, 276, 0, .null), (276, .iaload, 277, 0, .null), (277, .iadd, 278, 0, .null), (278, .istore 10, 280, 0, .null), (280, .iload 9, 282, 0, .null), (282, .iload 12, 284, 0, .null), (284, .iconst 2, 285, 0, .int (nI 2)), (285, .if_icmp .ge 7, 288, 292, .null)]
set_option maxRecDepth 100000 in
theorem ok_LW_law_3 : r_LW_law_3.all (am_okRowb "TraceAlignerLaw" code am_big) = true := by decide +kernel
set_option maxRecDepth 100000 in
def r_LW_law_4 : List am_Row := [(288, .iconst 1, 289, 0, .int (nI 1)), (289, .goto 4, 292, 293, .null), (292, .iconst 0, 293, 0, .int (nI 0)), (293, .iadd, 294, 0, .null), (294, .istore 9, 296, 0, .null), (296, .iload 12, 298, 0, .null), (298, .iconst 1, 299, 0, .int (nI 1)), (299, .if_icmp .ne 6, 302, 305, .null), (302, .goto 29, 305, 331, .null), (305, .aload_n 1, 306, 0, .null), (306, .iload 8, 308, 0, .null), (308, .invokevirtual 76, 311, 0, .null), (311, .iload 13, 313, 0, .null), (313, .ishr, 314, 0, .null), (314, .iconst 1, 315, 0, .int (nI 1)), (315, .iand, 316, 0, .null), (316, .ifCond .ne 5, 319, 321, .null), (319, .iconst 0, 320, 0, .int (nI 0)), (320, .ireturn, 321, 0, .null), (321, .aload_n 1, 322, 0, .null), (322, .iload 8, 324, 0, .null), (324, .iload 13, 326, 0, .null), (326, .invokevirtual 79, 329, 0, .null), (329, .istore 8, 331, 0, .null), (331, .iinc 11 1, 334, 0, .int (nI 1)), (334, .goto (-196), 337, 138, .null), (337, .iload 8, 339, 0, .null), (339, .aload_n 1, 340, 0, .null), (340, .invokevirtual 66, 343, 0, .null), (343, .if_icmp .ne 64, 346, 407, .null), (346, .iload 9, 348, 0, .null), (348, .aload 4, 350, 0, .null), (350, .iload 7, 352, 0, .null), (352, .aaload, 353, 0, .null), (353, .arraylength, 354, 0, .null), (354, .if_icmp .ne 53, 357, 407, .null), (357, .iload 10, 359, 0, .null), (359, .aload_n 1, 360, 0, .null), (360, .iload 7, 362, 0, .null), (362, .invokevirtual 82, 365, 0, .null)]
set_option maxRecDepth 100000 in
theorem ok_LW_law_4 : r_LW_law_4.all (am_okRowb "TraceAlignerLaw" code am_big) = true := by decide +kernel
set_option maxRecDepth 100000 in
def r_LW_law_5 : List am_Row := [(365, .if_icmp .ne 42, 368, 407, .null), (368, .iload 10, 370, 0, .null), (370, .aload_n 1, 371, 0, .null), (371, .iload 7, 373, 0, .null), (373, .invokevirtual 85, 376, 0, .null), (376, .if_icmp .gt 31, 379, 407, .null), (379, .aload_n 1, 380, 0, .null), (380, .iload 7, 382, 0, .null), (382, .invokevirtual 85, 385, 0, .null), (385, .aload 4, 387, 0, .null), (387, .iload 7, 389, 0, .null), (389, .aaload, 390, 0, .null), (390, .arraylength, 391, 0, .null), (391, .bipush 9, 393, 0, .int (nI 9)), (393, .iconst 0, 394, 0, .int (nI 0)), (394, .aload_n 1, 395, 0, .null), (395, .iconst 0, 396, 0, .int (nI 0)), (396, .invokevirtual 88, 399, 0, .null), (399, .invokestatic 91, 402, 0, .null), (402, .imul, 403, 0, .null), (403, .iadd, 404, 0, .null), (404, .if_icmp .le 5, 407, 409, .null), (407, .iconst 0, 408, 0, .int (nI 0)), (408, .ireturn, 409, 0, .null), (409, .iinc 7 1, 412, 0, .int (nI 1)), (412, .goto (-322), 415, 90, .null), (415, .iconst 0, 416, 0, .int (nI 0)), (416, .istore 7, 418, 0, .null), (418, .iconst 0, 419, 0, .int (nI 0)), (419, .istore 8, 421, 0, .null), (421, .iconst 0, 422, 0, .int (nI 0)), (422, .istore 9, 424, 0, .null), (424, .iconst 0, 425, 0, .int (nI 0)), (425, .istore 10, 427, 0, .null), (427, .iload 10, 429, 0, .null), (429, .bipush 12, 431, 0, .int (nI 12)), (431, .if_icmp .ge 142, 434, 573, .null), (434, .iload 7, 436, 0, .null), (436, .aload_n 1, 437, 0, .null), (437, .invokevirtual 66, 440, 0, .null)]
set_option maxRecDepth 100000 in
theorem ok_LW_law_5 : r_LW_law_5.all (am_okRowb "TraceAlignerLaw" code am_big) = true := by decide +kernel
set_option maxRecDepth 100000 in
def r_LW_law_6 : List am_Row := [(440, .if_icmp .eq 133, 443, 573, .null), (443, .iload 9, 445, 0, .null), (445, .bipush 8, 447, 0, .int (nI 8)), (447, .if_icmp .ge 126, 450, 573, .null), (450, .aload_n 0, 451, 0, .null), (451, .bipush 13, 453, 0, .int (nI 13)), (453, .invokestatic 9, 456, 0, .null), (456, .iconst 2, 457, 0, .int (nI 2)), (457, .iload 10, 459, 0, .null), (459, .imul, 460, 0, .null), (460, .ishr, 461, 0, .null), (461, .bipush 10, 463, 0, .int (nI 10)), (463, .invokestatic 15, 466, 0, .null), (466, .istore 11, 468, 0, .null), (468, .iload 11, 470, 0, .null), (470, .aload_n 2, 471, 0, .null), (471, .iconst 1, 472, 0, .int (nI 1)), (472, .iaload, 473, 0, .null), (473, .if_icmp .ge 17, 476, 490, .null), (476, .aload_n 1, 477, 0, .null), (477, .iload 7, 479, 0, .null), (479, .invokevirtual 76, 482, 0, .null), (482, .iload 11, 484, 0, .null), (484, .ishr, 485, 0, .null), (485, .iconst 1, 486, 0, .int (nI 1)), (486, .iand, 487, 0, .null), (487, .ifCond .ne 14, 490, 501, .null), (490, .aload_n 1, 491, 0, .null), (491, .iload 7, 493, 0, .null), (493, .invokevirtual 76, 496, 0, .null), (496, .invokestatic 96, 499, 0, .null), (499, .istore 11, 501, 0, .null), (501, .iload 11, 503, 0, .null), (503, .aload_n 2, 504, 0, .null), (504, .iconst 1, 505, 0, .int (nI 1)), (505, .iaload, 506, 0, .null), (506, .if_icmp .lt 6, 509, 512, .null), (509, .goto 64, 512, 573, .null), (512, .aload_n 1, 513, 0, .null), (513, .iload 7, 515, 0, .null)]
set_option maxRecDepth 100000 in
theorem ok_LW_law_6 : r_LW_law_6.all (am_okRowb "TraceAlignerLaw" code am_big) = true := by decide +kernel
set_option maxRecDepth 100000 in
def r_LW_law_7 : List am_Row := [(515, .iload 11, 517, 0, .null), (517, .invokevirtual 79, 520, 0, .null), (520, .istore 7, 522, 0, .null), (522, .aload_n 3, 523, 0, .null), (523, .iconst 4, 524, 0, .int (nI 4)), (524, .iload 11, 526, 0, .null), (526, .imul, 527, 0, .null), (527, .iaload, 528, 0, .null), (528, .ifCond .ge 19, 531, 547, .null), (531, .iload 8, 533, 0, .null), (533, .aload_n 3, 534, 0, .null), (534, .iconst 4, 535, 0, .int (nI 4)), (535, .iload 11, 537, 0, .null), (537, .imul, 538, 0, .null), (538, .iconst 1, 539, 0, .int (nI 1)), (539, .iadd, 540, 0, .null), (540, .iaload, 541, 0, .null), (541, .iadd, 542, 0, .null), (542, .istore 8, 544, 0, .null), (544, .goto 23, 547, 567, .null), (547, .iinc 9 1, 550, 0, .int (nI 1)), (550, .aload_n 1, 551, 0, .null), (551, .aload_n 3, 552, 0, .null), (552, .iconst 4, 553, 0, .int (nI 4)), (553, .iload 11, 555, 0, .null), (555, .imul, 556, 0, .null), (556, .iaload, 557, 0, .null), (557, .invokevirtual 43, 560, 0, .null), (560, .iload 9, 562, 0, .null), (562, .if_icmp .eq 5, 565, 567, .null), (565, .iconst 0, 566, 0, .int (nI 0)), (566, .ireturn, 567, 0, .null), (567, .iinc 10 1, 570, 0, .int (nI 1)), (570, .goto (-143), 573, 427, .null), (573, .aload_n 1, 574, 0, .null), (574, .iconst 5, 575, 0, .int (nI 5)), (575, .invokevirtual 46, 578, 0, .null), (578, .istore 10, 580, 0, .null), (580, .iload 10, 582, 0, .null), (582, .iload 5, 584, 0, .null)]
set_option maxRecDepth 100000 in
theorem ok_LW_law_7 : r_LW_law_7.all (am_okRowb "TraceAlignerLaw" code am_big) = true := by decide +kernel
set_option maxRecDepth 100000 in
def r_LW_law_8 : List am_Row := [(584, .if_icmp .ne 38, 587, 622, .null), (587, .iload 7, 589, 0, .null), (589, .aload_n 1, 590, 0, .null), (590, .invokevirtual 66, 593, 0, .null), (593, .if_icmp .ne 14, 596, 607, .null), (596, .aload_n 1, 597, 0, .null), (597, .iload 10, 599, 0, .null), (599, .invokevirtual 82, 602, 0, .null), (602, .iload 8, 604, 0, .null), (604, .if_icmp .gt 18, 607, 622, .null), (607, .aload_n 1, 608, 0, .null), (608, .iload 10, 610, 0, .null), (610, .invokevirtual 49, 613, 0, .null), (613, .iload 9, 615, 0, .null), (615, .if_icmp .ne 7, 618, 622, .null), (618, .iconst 1, 619, 0, .int (nI 1)), (619, .goto 4, 622, 623, .null), (622, .iconst 0, 623, 0, .int (nI 0)), (623, .ireturn, 624, 0, .null)]
set_option maxRecDepth 100000 in
theorem ok_LW_law_8 : r_LW_law_8.all (am_okRowb "TraceAlignerLaw" code am_big) = true := by decide +kernel
def r_LW_law : List am_Row := r_LW_law_0 ++ (r_LW_law_1 ++ (r_LW_law_2 ++ (r_LW_law_3 ++ (r_LW_law_4 ++ (r_LW_law_5 ++ (r_LW_law_6 ++ (r_LW_law_7 ++ (r_LW_law_8))))))))
def E_LW_law : am_E := (am_G0, (F_LW, N_LW, C_LW), m_LW_law, r_LW_law)
theorem e_LW_law : am_okE E_LW_law := ⟨am_big_good, okT_LW, am_okRow_of (am_all_app ok_LW_law_0 (am_all_app ok_LW_law_1 (am_all_app ok_LW_law_2 (am_all_app ok_LW_law_3 (am_all_app ok_LW_law_4 (am_all_app ok_LW_law_5 (am_all_app ok_LW_law_6 (am_all_app ok_LW_law_7 ok_LW_law_8))))))))⟩
