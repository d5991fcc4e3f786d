/-! THE PLAIN MACHINE: methods that throw, and their catching -/
/-- words of the tables that are kept in their own way -/
def am_cst : List (String × String) := [("java/lang/IllegalStateException", "java/lang/IllegalStateException"), ("java/lang/IllegalArgumentException", "java/lang/IllegalArgumentException"), ("java/lang/IndexOutOfBoundsException", "java/lang/IndexOutOfBoundsException")]
def am_dcl : List MethodName := [⟨"java/lang/RuntimeException", "<init>", "()V"⟩, ⟨"java/lang/RuntimeException", "<init>", "(Ljava/lang/String;)V"⟩, ⟨"java/lang/Exception", "<init>", "()V"⟩, ⟨"java/lang/Exception", "<init>", "(Ljava/lang/String;)V"⟩, ⟨"java/lang/Throwable", "<init>", "()V"⟩, ⟨"java/lang/Throwable", "<init>", "(Ljava/lang/String;)V"⟩]
def am_ws9 : List Jvm.Cond := am_cst.map (fun q => .castable q.1 q.2) ++ am_dcl.map .declares
theorem am_ws9_on : ∀ w ∈ am_ws9, w.onTables = true := fun w h => List.all_eq_true.mp (show am_ws9.all (fun w => w.onTables) = true from rfl) w h
theorem am_ws9_moved {u U : State} (hW : u.WarmedH U.vm) (h : ∀ w ∈ am_ws9, va_Nw w u) : ∀ w ∈ am_ws9, va_Nw w U := fun w hw => by
  rcases List.mem_append.mp hw with z | z
  · obtain ⟨q, hq, rfl⟩ := List.mem_map.mp z
    exact va_Nw.warmC hW (h _ hw)
  · obtain ⟨y, hy, rfl⟩ := List.mem_map.mp z
    exact va_Nw.warmD hW (h _ hw)
/-- what a throw stands on: two static fields, the texts, what is no kind of what -/
def am_V (base : Nat) (U : State) : Prop := vx_Zq Bundle.tN "UNASSIGNED_STACK" Bundle.steD (fun q => base ≤ q) U U.heap ∧ vx_Zq Bundle.tN "SUPPRESSED_SENTINEL" Bundle.listD (fun q => base ≤ q) U U.heap ∧ (∀ q ∈ am_str, ∃ sa, vk_R q.1 q.2.1 q.2.2 sa U) ∧ (∀ q ∈ am_ncs, va_Nc q.1 q.2 U) ∧ ∀ w ∈ am_ws9, va_Nw w U
theorem am_V.moved {base : Nat} {u U : State} (hW : u.WarmedH U.vm) (hq : ∀ a : Nat, a < u.heap.size → ¬ base ≤ a → U.heap[a]? = u.heap[a]?) (h : am_V base u) : am_V base U :=
  ⟨vx_Zq.moved hW.alike (h.1.kept hq), vx_Zq.moved hW.alike (h.2.1.kept hq), fun q hm => (h.2.2.1 q hm).imp fun sa z => vk_R.warm hW z, fun q hm => va_Nc.moved hW.alike (h.2.2.2.1 q hm), am_ws9_moved hW h.2.2.2.2⟩
def am_P (hh : List (Nat × Nat × Nat × Nat)) (l : Launch) (c : Code) (base : Nat) (s : State) : Prop := l.stackTraces = false ∧ c.exceptionTable.toList = tableOf hh ∧ am_V base s
/-- thrown: the class, and the cells h' that are left -/
def am_XC (D : va_G) (cl : List vw_C) (cA : Nat → ClassId) (sb base : Nat) (Xa : String → am_H → Prop) : String → State → State → Prop := fun En st t => (∃ h', Xa En h' ∧ am_R D cl cA sb base t h' t.heap) ∧ va_F (fun q => base ≤ q) st t
def am_ZX (E : am_E) (dc ds : Nat) (Qa : Option Value → am_H → Prop) (Xa : String → am_H → Prop) : am_Z := fun l c D cA sb base below args s t => am_P [] l c base s → vx_MQ below (am_Qc D E.1.1 cA sb base Qa) (am_XC D E.1.1 cA sb base Xa) args s dc ds (fun q => base ≤ q) t
def am_ZW (E : am_E) (hh : List (Nat × Nat × Nat × Nat)) (dc ds : Nat) (Qa : Option Value → am_H → Prop) : am_Z := fun l c D cA sb base below args s t => am_P hh l c base s → MQ below (am_Qc D E.1.1 cA sb base Qa) args s dc ds (fun q => base ≤ q) t
def am_PV (D : va_G) (cl : List vw_C) (cA : Nat → ClassId) (sb base : Nat) (av : List Value) (h : am_H) : Array Value → State → Prop := va_Pc (av.map (am_cv sb base)) (fun U => (am_R D cl cA sb base U h U.heap ∧ am_K D cl cA am_tys U) ∧ am_V base U)
theorem am_blindV {D : va_G} {cl : List vw_C} {cA : Nat → ClassId} {sb base : Nat} {h : am_H} {av : List Value} : FrameBlind (am_PV D cl cA sb base av h) :=
  fun a U g mk q => ⟨q.1, ⟨am_R.moved (u := U) (U := U.calling g mk a) (Vm.Alike.refl U.vm) q.2.1.1, am_K.moved (u := U) (U := U.calling g mk a) (State.WarmedH.refl U) q.2.1.2⟩, am_V.moved (u := U) (U := U.calling g mk a) (State.WarmedH.refl U) (fun _ _ _ => rfl) q.2.2⟩
/-- THE CONTRACT of a method that may throw -/
def am_CtX (G : List vw_C × List Jvm.Cond) (M : am_M) (f dc ds : Nat) (av : List Value) (h : am_H) (Qa : Option Value → am_H → Prop) (Xa : String → am_H → Prop) : Prop :=
  ∀ (l : Launch), l.stackTraces = false → ∀ (D : va_G) (cA : Nat → ClassId) (sb base : Nat), vx_Met l M.1 (.code M.1 M.2.1 M.2.2.1 M.2.2.2 :: G.2) (am_rm f dc ds) (am_PV D G.1 cA sb base av h) (am_Qc D G.1 cA sb base Qa) (am_XC D G.1 cA sb base Xa) dc ds (fun q => base ≤ q)
/-- of one that catches -/
def am_CtW (G : List vw_C × List Jvm.Cond) (M : am_M) (hh : List (Nat × Nat × Nat × Nat)) (f dc ds : Nat) (av : List Value) (h : am_H) (Qa : Option Value → am_H → Prop) : Prop :=
  ∀ (l : Launch), l.stackTraces = false → ∀ (D : va_G) (cA : Nat → ClassId) (sb base : Nat), Met l M.1 (.codeWith M.1 M.2.1 M.2.2.1 M.2.2.2 hh :: G.2) (am_rm f dc ds) (am_PV D G.1 cA sb base av h) (am_Qc D G.1 cA sb base Qa) dc ds (fun q => base ≤ q)
theorem am_CtX.of {E : am_E} {f dc ds : Nat} {av : List Value} {h : am_H} {Qa : Option Value → am_H → Prop} {Xa : String → am_H → Prop} (hE : am_okE E) (hy : plainName E.2.2.1.1.cls = true) (hn : (am_lo av).length ≤ E.2.2.1.2.2.1)
    (k : am_B E (am_rm f dc ds) (am_ZX E dc ds Qa Xa) 0 (am_lo0 av E.2.2.1.2.2.1) [] h dc ds) : am_CtX E.1 E.2.2.1 f dc ds av h Qa Xa := by
  intro l hl9 D cA sb base
  refine vx_ofW (cc := E.2.2.1.2.1) (maxL := E.2.2.1.2.2.1) (ret := E.2.2.1.2.2.2) hy rfl ?_
  intro p e s m args below meth c s₁ B hml ht hv
  obtain ⟨rfl, ⟨hR, hK⟩, hV⟩ := hv
  have hts := atoms_spec (ws := .code E.2.2.1.1 E.2.2.1.2.1 E.2.2.1.2.2.1 E.2.2.1.2.2.2 :: E.1.2) B.pre
  have hown : s.vm.findClass E.2.2.1.1.cls = some m.cls := findClass_of_methodNamed B.named
  have K := k hE l D cA sb base p e s m _ below meth c ⟨B.exec, B.bytes, hml, B.returns, hown, fun w hw => hts w (List.mem_cons_of_mem _ hw), hK, B.notSynchronized, (name_of_methodNamed B.named B.method).1⟩
    s.heap [] 0 0 _ hR va_S.rf (by show 0 + dc ≤ dc; omega) (by show 0 + ds ≤ ds; omega) (am_entry hn)
  rw [lg_entry_eq]
  intro T hT X
  obtain ⟨t, a1, b1⟩ := K T hT X
  exact ⟨t, a1, b1 ⟨hl9, List.eq_nil_iff_forall_not_mem.mpr (fun x hx => ht x hx), hV⟩⟩
theorem am_CtW.of {E : am_E} {hh : List (Nat × Nat × Nat × Nat)} {f dc ds : Nat} {av : List Value} {h : am_H} {Qa : Option Value → am_H → Prop} (hE : am_okE E) (hy : plainName E.2.2.1.1.cls = true) (hn : (am_lo av).length ≤ E.2.2.1.2.2.1)
    (k : am_B E (am_rm f dc ds) (am_ZW E hh dc ds Qa) 0 (am_lo0 av E.2.2.1.2.2.1) [] h dc ds) : am_CtW E.1 E.2.2.1 hh f dc ds av h Qa := by
  intro l hl9 D cA sb base
  refine va_MetW (cc := E.2.2.1.2.1) (maxL := E.2.2.1.2.2.1) (ret := E.2.2.1.2.2.2) hy rfl ?_
  intro p e s m args below meth c s₁ B hml hv
  obtain ⟨rfl, ⟨hR, hK⟩, hV⟩ := hv
  have hts := atoms_spec (ws := .codeWith E.2.2.1.1 E.2.2.1.2.1 E.2.2.1.2.2.1 E.2.2.1.2.2.2 hh :: E.1.2) B.pre
  have hown : s.vm.findClass E.2.2.1.1.cls = some m.cls := findClass_of_methodNamed B.named
  have K := k hE l D cA sb base p e s m _ below meth c ⟨B.exec, B.bytes, hml, B.returns, hown, fun w hw => hts w (List.mem_cons_of_mem _ hw), hK, B.notSynchronized, (name_of_methodNamed B.named B.method).1⟩
    s.heap [] 0 0 _ hR va_S.rf (by show 0 + dc ≤ dc; omega) (by show 0 + ds ≤ ds; omega) (am_entry hn)
  rw [lg_entry_eq]
  intro T hT X
  obtain ⟨t, a1, b1⟩ := K T hT X
  exact ⟨t, a1, b1 ⟨hl9, vx_table (x := E.2.2.1.1) B (hts _ List.mem_cons_self), hV⟩⟩
section THROW
variable {E : am_E} {R : Room} {Z : am_Z} {pc : Nat} {lo lo' : am_L} {st rest : List Value} {h : am_H} {rc rs : Nat} {r : am_Row} {dc ds f : Nat} {Qa : Option Value → am_H → Prop} {Xa : String → am_H → Prop} {hh : List (Nat × Nat × Nat × Nat)}
/-- a walk to its end without a throw -/
theorem am_B.toX (k : am_B E R (am_ZM E dc ds Qa) pc lo st h rc rs) : am_B E R (am_ZX E dc ds Qa Xa) pc lo st h rc rs := by
  intro ok l D cA sb base p e s m args below meth c C H locs cells slots ls hR hS h1 h2 hl T hT X
  obtain ⟨t, a1, o, b1, b2, b3, b4⟩ := k ok l D cA sb base p e s m args below meth c C H locs cells slots ls hR hS h1 h2 hl T hT X
  exact ⟨t, a1, fun _ => ⟨o, b1, b2, Or.inl ⟨b3, b4⟩⟩⟩
theorem am_B.toW (k : am_B E R (am_ZM E dc ds Qa) pc lo st h rc rs) : am_B E R (am_ZW E hh dc ds Qa) pc lo st h rc rs := by
  intro ok l D cA sb base p e s m args below meth c C H locs cells slots ls hR hS h1 h2 hl T hT X
  obtain ⟨t, a1, b1⟩ := k ok l D cA sb base p e s m args below meth c C H locs cells slots ls hR hS h1 h2 hl T hT X
  exact ⟨t, a1, fun _ => b1⟩
/-- 'throw new E("text")', nothing under it on the stack -/
theorem am_B.thr {i0 i4 i6 : Nat} {cls text : String} {names : List String} {r0 r3 r4 r6 r9 : am_Row} (h0 : am_find E.2.2.2 pc = some r0) (g0 : r0.2.1 = .new i0) (h3 : am_find E.2.2.2 (pc + 3) = some r3) (g3 : r3.2.1 = .dup) (h4 : am_find E.2.2.2 (pc + 4) = some r4) (g4 : r4.2.1 = .ldc i4) (h6 : am_find E.2.2.2 (pc + 6) = some r6) (g6 : r6.2.1 = .invokespecial i6) (h9 : am_find E.2.2.2 (pc + 9) = some r9) (g9 : r9.2.1 = .athrow)
    (hcls : Bundle.fit cls = true) (hnames : ∀ n ∈ names, Bundle.fit n = true) (hw : ∀ w ∈ Cond.classLink E.2.2.1.1.cls i0 cls :: Cond.initialized cls :: vx_atS E.2.2.1.1.cls i6 cls names, w ∈ E.1.2 ∨ w ∈ am_ws9) (hstr : (E.2.2.1.1.cls, i4, text) ∈ am_str) (hf : names.length + 3 < f) (hfl : 13 * (names.length + 1) + 43 ≤ 36 * f)
    (hq : ∀ d, Xa cls (h ++ List.replicate d am_unk)) : am_B E (am_rm f dc ds) (am_ZX E dc ds Qa Xa) pc lo [] h (rc + 1) (rs + 6) := by
  intro ok l D cA sb base p e s m args below meth c C H locs cells slots ls hR hS k1 k2 hl
  obtain ⟨hx, hb, hml, hret, hown, hts, hK, hlk, hnm⟩ := C
  have dec : ∀ {q : Nat} {r : am_Row}, am_find E.2.2.2 q = some r → decode E.2.2.1.2.1 q = .ok (r.2.1, am_len r.2.1) := fun {q r} hf9 => by
    obtain ⟨hm0, rfl⟩ := am_find_ok hf9
    exact (ok.2.2 r hm0).1
  have d0 := dec h0
  have d3 := dec h3
  have d4 := dec h4
  have d6 := dec h6
  have d9 := dec h9
  rw [g0] at d0
  rw [g3] at d3
  rw [g4] at d4
  rw [g6] at d6
  rw [g9] at d9
  by_cases hP : am_P [] l c base s
  · obtain ⟨sa, hsa⟩ := hP.2.2.2.2.1 _ hstr
    have hts9 : ∀ w, w ∈ E.1.2 ∨ w ∈ am_ws9 → w.before args s = true := fun w hw9 => hw9.elim (hts w) (fun z => va_Nw.use (am_ws9_on w z) (hP.2.2.2.2.2.2 w z))
    have hgo9 : ∀ w, w ∈ E.1.2 ∨ w ∈ am_ws9 → vx_ot w = true := fun w hw9 => hw9.elim (fun z => by unfold vx_ot; rw [ok.1 w z, Bool.or_true]) (fun z => by unfold vx_ot; rw [am_ws9_on w z, Bool.true_or])
    have rc9 : cells + (rc + 1) ≤ dc := k1
    have rs9 : slots + (rs + 6) ≤ ds := k2
    intro T hT X
    obtain ⟨t, a1, b1⟩ := vx_throwS (A := fun q => base ≤ q) (Qc := am_Qc D E.1.1 cA sb base Qa) (XC := am_XC D E.1.1 cA sb base Xa) (mc := dc) (ms := ds) (free := fun q => base ≤ q) (rest := []) hx hb hP.1 hown hcls hnames
      (hts9 _ (hw _ List.mem_cons_self)) (hts9 _ (hw _ (List.mem_cons_of_mem _ List.mem_cons_self))) hsa (fun w hw' => hts9 w (hw _ (List.mem_cons_of_mem _ (List.mem_cons_of_mem _ hw')))) (fun w hw' => hgo9 w (hw w hw'))
      hP.2.2.1 hP.2.2.2.1 hS (hl.2.1.trans hml.symm) d0 d3 d4 d6 d9 (fun x hx9 => by rw [hP.2.1] at hx9; cases hx9) hf (by show 0 + _ ≤ 36 * f; omega) (by show cells + 1 ≤ dc; omega) (by show slots + 6 ≤ ds; omega) hlk
      (fun t hal hz ho => ⟨⟨_, hq (t.heap.size - H.size), (hR.grow hz ho).moved hal⟩, Nat.le_trans hS.1 hz, fun q q1 q2 => (ho q (Nat.lt_of_lt_of_le q1 hS.1)).trans (hS.2.1 q q1 q2)⟩) hS.2.2 (by omega) (by omega) T hT X
    exact ⟨t, a1, fun _ => b1⟩
  · intro T hT X
    exact ⟨_, Steps.refl _, fun z => absurd z hP⟩
end THROW
section XCALLS
variable {D : va_G} {cl : List vw_C} {cA : Nat → ClassId} {sb base : Nat} {p : Program} {l : Launch} {e : Env} {R : Room} {s : State} {m : MethodId} {args : Array Value} {below : List Frame} {meth : Method} {c : Code} {Q : State → Prop}
/-- behind a call that returned or threw -/
theorem am_backX {H : Heap} {locs : List Loc} {cells slots mc ms pc : Nat} {ls : Array Slot} {st0 rest : List Value} {a : Array Value} {Qa : Option Value → am_H → Prop} {Xa : String → am_H → Prop}
    (hr : vx_Run p l e R s m args below meth c H locs cells slots mc ms (F0 m pc ls st0) (rest.map (am_cv sb base)) (am_Qc D cl cA sb base Qa a) (am_XC D cl cA sb base Xa) (fun q => base ≤ q)) (hS : va_S (fun q => base ≤ q) s.heap H locs)
    (kk : ∀ (v : Option Value) (h' : am_H) (H1 : Heap) (locs1 : List Loc), Qa v h' → am_R D cl cA sb base s h' H1 → va_S (fun q => base ≤ q) s.heap H1 locs1 → W p l e R s m args below meth c H1 locs1 (cells + mc) (slots + ms) Q (F0 m (pc + 3) ls ((v.toList ++ rest).map (am_cv sb base))))
    (kx : ∀ (En : String) (ce : Cell) (q : Addr) (h' : am_H) (H1 : Heap) (locs1 : List Loc), Xa En h' → am_R D cl cA sb base s h' H1 → va_S (fun q => base ≤ q) s.heap H1 locs1 → H1[q]? = some ce → ce.vm = .none → s.vm.findClass En = some ce.cls → vx_W p l e R s m args below meth c H1 locs1 (cells + mc) (slots + ms) Q (F0 m pc ls (rest.map (am_cv sb base))) q) :
    W p l e R s m args below meth c H locs cells slots Q (F0 m pc ls st0) := by
  intro T hT X
  rcases hr T hT X with ⟨v, st₀, t, T', L, h0, X', hL, e1, e2, ⟨⟨v', h', ev, hQ, hR, hK⟩, hz, hk⟩, st⟩ | ⟨q, st₀, t, T', L, En, ce, h0, X', hL, e1, e2, ⟨⟨h', hQ, hR⟩, hz, hk⟩, hce, hcv, hcl, st⟩
  · cases ev
    rw [h0] at hz hk
    have hal : t.vm.Alike s.vm := by rw [← e2]; exact X'.warmed.alike.symm
    obtain ⟨t2, a1, b1⟩ := kk v' h' T'.heap (locs ++ L) hQ (by rw [e1]; exact hR.moved hal)
      ⟨Nat.le_trans hS.1 (by rw [e1]; exact hz), fun q h1 h2 => by rw [e1, hk q (Nat.lt_of_lt_of_le h1 hS.1) h2]; exact hS.2.1 q h1 h2, fun q hq => by
        rcases List.mem_append.mp hq with h | h
        · exact hS.2.2 q h
        · exact hL q h⟩ T' rfl X'
    refine ⟨t2, st t2 ?_, b1⟩
    have e5 : (v'.map (am_cv sb base)).toList ++ rest.map (am_cv sb base) = (v'.toList ++ rest).map (am_cv sb base) := by cases v' <;> rfl
    rw [e5]
    exact a1
  · rw [h0] at hz hk
    have hal : t.vm.Alike s.vm := by rw [← e2]; exact X'.warmed.alike.symm
    obtain ⟨t2, a1, b1⟩ := kx En ce q h' T'.heap (locs ++ L) hQ (by rw [e1]; exact hR.moved hal)
      ⟨Nat.le_trans hS.1 (by rw [e1]; exact hz), fun q h1 h2 => by rw [e1, hk q (Nat.lt_of_lt_of_le h1 hS.1) h2]; exact hS.2.1 q h1 h2, fun q hq => by
        rcases List.mem_append.mp hq with h | h
        · exact hS.2.2 q h
        · exact hL q h⟩ (by rw [e1]; exact hce) hcv hcl T' rfl X'
    exact ⟨t2, st.trans a1, b1⟩
end XCALLS
section XRULES
variable {E : am_E} {R : Room} {Z : am_Z} {pc : Nat} {lo lo' : am_L} {st rest : List Value} {h : am_H} {rc rs : Nat} {r : am_Row} {DC DS F : Nat} {Qb : Option Value → am_H → Prop} {Xb : String → am_H → Prop} {hh : List (Nat × Nat × Nat × Nat)}
/-- an object's method that may throw; what it throws goes on to the caller -/
theorem am_B.callVX {i ci n f dc ds a : Nat} {M : am_M} {as : List Value} {vs : List Value} {Qa : Option Value → am_H → Prop} {Xa : String → am_H → Prop} (hf : am_find E.2.2.2 pc = some r) (hi : r.2.1 = .invokevirtual i) (hm : am_mfind E.2.1.2.2 i = some (i, 0, ci, n, M)) (hc : am_CtX E.1 M f dc ds (.ref a :: as) h Qa Xa)
    (hst : st = as.reverse ++ .ref a :: rest) (hn : as.length = n) (hw : am_wd rest ≤ 8) (hfit : am_fits (am_rm F DC DS) f M.2.2.1 = true) (ha : h[a]? = some (.inr (ci, vs))) {rc0 rs0 : Nat} (hrc : rc + dc = rc0) (hrs : rs + ds = rs0) (k : ∀ v h', Qa v h' → am_B E (am_rm F DC DS) (am_ZX E DC DS Qb Xb) (pc + 3) lo (v.toList ++ rest) h' rc rs) (kx : ∀ En h', Xa En h' → Xb En h') :
    am_B E (am_rm F DC DS) (am_ZX E DC DS Qb Xb) pc lo st h rc0 rs0 := by
  subst hrc; subst hrs
  intro ok l D cA sb base p e s m args below meth c C H locs cells slots ls hR hS h1 h2 hl
  by_cases hP : am_P [] l c base s
  rotate_left
  · intro T hT X
    exact ⟨_, Steps.refl _, fun z => absurd z hP⟩
  obtain ⟨hm0, rfl⟩ := am_find_ok hf
  obtain ⟨hd, -, -⟩ := ok.2.2 r hm0
  obtain ⟨hq, -⟩ := am_mfind_ok hm
  obtain ⟨hcode, hdes, hini, hlink, hinst, hsel, hcl⟩ := ok.2.1.2.2 _ hq
  dsimp only at hcode hdes hini hlink hinst hsel hcl
  have C0 := C
  obtain ⟨hx, hb, hml, hret, hown, hts, hK, hlk, hnm⟩ := C
  rw [hi] at hd
  subst hst
  have hfr := am_fits_ok hfit
  have r1 : cells + (rc + dc) ≤ DC := h1
  have r2 : slots + (rs + ds) ≤ DS := h2
  obtain ⟨q, hq1, hq2⟩ : ∃ q, E.1.1[ci]? = some q ∧ q.1 = M.1.cls := by
    cases hz : E.1.1[ci]? with
    | none => rw [hz] at hcl; cases hcl
    | some q => rw [hz] at hcl; exact ⟨q, rfl, Option.some.inj hcl⟩
  obtain ⟨r', hr', cell, g1, g2, g3, -⟩ := hR.2.2.2 a _ ha
  refine am_backX (vx_runV (C := M.1.cls) (As := as.map (am_cv sb base)) (rest := rest.map (am_cv sb base)) ⟨hx, hb, hml, hown, hts⟩ (hc l hP.1 D cA sb base)
    ⟨callB_of n hts (am_good ok.1 hcode) rfl rfl rfl (hts _ hini) (hts _ hlink) hdes hfr, hts _ hinst, hts _ hsel⟩
    ⟨am_blindV, ⟨cell, g1, by rw [g3]; rfl, by rw [g2, ← hq2]; exact (hK.1 ci q hq1).2.1⟩, fun U hU hW => ⟨rfl, ⟨by rw [hU]; exact hR.moved hW.alike, hK.moved hW⟩, am_V.moved hW (fun a q1 q2 => by rw [hU]; exact hS.2.1 a q1 q2) hP.2.2⟩⟩ rfl (by rw [List.length_map]; exact hn) hl.2.1 (by simp [am_cv]) ?_ hd ⟨by show cells + dc ≤ DC; omega, by show slots + ds ≤ DS; omega⟩) hS
    (fun v h' H1 locs1 hQ hR1 hS1 => k v h' hQ ok l D cA sb base p e s m args below meth c C0 H1 locs1 (cells + dc) (slots + ds) ls hR1 hS1 (by show cells + dc + rc ≤ DC; omega) (by show slots + ds + rs ≤ DS; omega) hl) ?_
  · show 2 * 0 + _ ≤ 8
    rw [am_wd_cv]
    omega
  · intro En ce q9 h' H1 locs1 hXa hR1 hS1 hce hcv hcl9 T hT X
    obtain ⟨t, a1, b1⟩ := vx_out (E := En) (mc := DC) (ms := DS) (free := fun q => base ≤ q) (Qc := am_Qc D E.1.1 cA sb base Qb) (XC := am_XC D E.1.1 cA sb base Xb) (fun x hx9 => by rw [hP.2.1] at hx9; cases hx9) hlk hce hcv hcl9
      (fun t ht hal => ⟨⟨h', kx En h' hXa, by rw [ht]; exact hR1.moved hal⟩, hS1.F ht⟩) hS1.2.2 (by omega) (by omega) T hT X
    exact ⟨t, a1, fun _ => b1⟩
/-- a handler: its row, what it catches; it lays the thrown away -/
def am_hd (E : am_E) (R : Room) (Z : am_Z) (hh : List (Nat × Nat × Nat × Nat)) (pc : Nat) (lo : am_L) (En : String) (h' : am_H) (rc rs : Nat) : Prop :=
  ∃ (pre suf : List (Nat × Nat × Nat × Nat)) (x : Nat × Nat × Nat × Nat) (name : String) (r : am_Row) (k : Nat), hh = pre ++ x :: suf ∧ (∀ z ∈ pre, z.2.2.2 ≠ 0 ∧ ∃ nm : String, Jvm.Cond.classLink E.2.2.1.1.cls z.2.2.2 nm ∈ E.1.2 ∧ (En, nm) ∈ am_ncs) ∧ (x.1 ≤ pc ∧ pc < x.2.1) ∧ x.2.2.2 ≠ 0 ∧
    Jvm.Cond.classLink E.2.2.1.1.cls x.2.2.2 name ∈ E.1.2 ∧ (En, name) ∈ am_cst ∧ am_find E.2.2.2 x.2.2.1 = some r ∧ ((∃ j : Fin 4, r.2.1 = .astore_n j ∧ j.val = k) ∨ r.2.1 = .astore k) ∧ (am_st1 lo k .null).isSome = true ∧ am_B E R Z r.2.2.1 (lo.set k none) [] h' rc rs
theorem am_catch {D : va_G} {cA : Nat → ClassId} {sb base : Nat} {p : Program} {l : Launch} {e : Env} {s : State} {m : MethodId} {args : Array Value} {below : List Frame} {meth : Method} {c : Code} {H1 : Heap} {locs1 : List Loc} {cells slots : Nat} {ls : Array Slot} {rest9 : List Value} {En : String} {ce : Cell} {q9 : Addr} {h' : am_H}
    (hd : am_hd E R Z hh pc lo En h' rc rs) (ok : am_okE E) (C : am_Cx E D cA p s m args meth c) (hP : am_P hh l c base s) (hR1 : am_R D E.1.1 cA sb base s h' H1) (hS1 : va_S (fun q => base ≤ q) s.heap H1 locs1) (hce : H1[q9]? = some ce) (hcv : ce.vm = .none) (hcl9 : s.vm.findClass En = some ce.cls)
    (g1 : cells + rc ≤ R.cells) (g2 : slots + rs ≤ R.slots) (hl : am_LR (am_cv sb base) ls E.2.2.1.2.2.1 lo) :
    vx_W p l e R s m args below meth c H1 locs1 cells slots (Z l c D cA sb base below args s) (F0 m pc ls rest9) q9 := by
  obtain ⟨pre, suf, x, name, r, k, e1, e2, e3, e4, e5, e6, e7, e8, e9, e10⟩ := hd
  have C0 := C
  obtain ⟨hx, hb, hml, hret, hown, hts, hK, hlk, hnm⟩ := C
  obtain ⟨hm0, hr0⟩ := am_find_ok e7
  obtain ⟨hdec, hnx, -⟩ := ok.2.2 r hm0
  rw [hr0] at hdec hnx
  refine vx_catch (own := E.2.2.1.1.cls) (name := name) (E := En) hown (tableOf pre) ⟨x.1, x.2.1, x.2.2.1, x.2.2.2⟩ (tableOf suf) (by rw [hP.2.1, e1]; unfold tableOf; rw [List.map_append, List.map_cons]) (fun z hz => ?_) (by simp [covers, e3.1, e3.2]) e4 (hts _ e5) (va_Nw.use rfl (hP.2.2.2.2.2.2 _ (List.mem_append_left _ (List.mem_map.mpr ⟨_, e6, rfl⟩)))) hce hcv hcl9 ?_
  · obtain ⟨z0, hz0, rfl⟩ := List.mem_map.mp hz
    obtain ⟨q1, nm, q2, q3⟩ := e2 z0 hz0
    exact Or.inr ⟨q1, nm, hts _ q2, hP.2.2.2.2.2.1 _ q3⟩
  · have K := fun ls' hl' => e10 ok l D cA sb base p e s m args below meth c C0 H1 locs1 cells slots ls' hR1 hS1 g1 g2 hl'
    obtain ⟨lo1, hlo1⟩ := Option.isSome_iff_exists.mp e9
    obtain ⟨a1, a2, a3⟩ := am_st1_ok (am_cv_cat sb base) hl hlo1 rfl
    have hlo2 : lo1 = lo.set k (some .null) := by
      unfold am_st1 at hlo1
      split at hlo1
      · cases hlo1
      · cases hb2 : am_c2 lo k <;> rw [hb2] at hlo1 <;> simp only [cond_true, cond_false] at hlo1
        · exact (Option.some.inj hlo1).symm
        · cases hlo1
    have sub9 : ∀ (w : Value), ∀ q ∈ am_lp (am_cv sb base) 0 (lo.set k none), q ∈ (k, w) :: (am_lp (am_cv sb base) 0 lo).filter (fun q => !(q.1 == k) && !(q.1 + 1 == k && q.2.category == 2)) := fun w q hq => by
      obtain ⟨b1, v, b2, b3⟩ := am_lp_mem.mp hq
      rw [Nat.sub_zero] at b2
      have hne : k ≠ q.1 := fun e => by
        rw [← e] at b2
        by_cases hlt : k < lo.length
        · rw [List.getElem?_set_self hlt] at b2
          cases b2
        · rw [List.getElem?_eq_none (by rw [List.length_set]; omega)] at b2
          cases b2
      rw [List.getElem?_set_ne hne] at b2
      have hin : q ∈ am_lp (am_cv sb base) 0 lo1 := am_lp_mem.mpr ⟨Nat.zero_le _, v, by rw [hlo2, Nat.sub_zero, List.getElem?_set_ne hne]; exact b2, b3⟩
      rcases List.mem_cons.mp (a3 q hin) with h9 | h9
      · exact absurd (congrArg Prod.fst h9).symm hne
      · exact List.mem_cons_of_mem _ h9
    have len9 : (lo.set k none).length ≤ E.2.2.1.2.2.1 := by rw [List.length_set]; exact hl.1
    have K2 : ∀ (ls' : Array Slot) (w : Value), lv_has ls' E.2.2.1.2.2.1 ((k, w) :: (am_lp (am_cv sb base) 0 lo).filter (fun q => !(q.1 == k) && !(q.1 + 1 == k && q.2.category == 2))) → W p l e R s m args below meth c H1 locs1 cells slots (Z l c D cA sb base below args s) (F0 m r.2.2.1 ls' []) :=
      fun ls' w h9 => K ls' ⟨len9, h9.1, h9.2.1, fun q hq => h9.2.2 q (sub9 w q hq)⟩
    rw [hnx] at K2
    rcases e8 with ⟨j, e8, rfl⟩ | e8
    · rw [e8] at hdec K2
      exact lv_astore_n hx hb hdec rfl hl.2 a1 rfl (fun ls' h9 => K2 ls' (.ref q9) h9)
    · rw [e8] at hdec K2
      exact lv_astore hx hb hdec hl.2 a1 rfl (fun ls' h9 => K2 ls' (.ref q9) h9)
/-- .. what it throws is caught here -/
theorem am_B.callVC {i ci n f dc ds a : Nat} {M : am_M} {as : List Value} {vs : List Value} {Qa : Option Value → am_H → Prop} {Xa : String → am_H → Prop} (hf : am_find E.2.2.2 pc = some r) (hi : r.2.1 = .invokevirtual i) (hm : am_mfind E.2.1.2.2 i = some (i, 0, ci, n, M)) (hc : am_CtX E.1 M f dc ds (.ref a :: as) h Qa Xa)
    (hst : st = as.reverse ++ .ref a :: rest) (hn : as.length = n) (hw : am_wd rest ≤ 8) (hfit : am_fits R f M.2.2.1 = true) (ha : h[a]? = some (.inr (ci, vs))) {rc0 rs0 : Nat} (hrc : rc + dc = rc0) (hrs : rs + ds = rs0) (k : ∀ v h', Qa v h' → am_B E R (am_ZW E hh DC DS Qb) (pc + 3) lo (v.toList ++ rest) h' rc rs)
    (kx : ∀ En h', Xa En h' → am_hd E R (am_ZW E hh DC DS Qb) hh pc lo En h' rc rs) : am_B E R (am_ZW E hh DC DS Qb) pc lo st h rc0 rs0 := by
  subst hrc; subst hrs
  intro ok l D cA sb base p e s m args below meth c C H locs cells slots ls hR hS h1 h2 hl
  by_cases hP : am_P hh l c base s
  rotate_left
  · intro T hT X
    exact ⟨_, Steps.refl _, fun z => absurd z hP⟩
  obtain ⟨hm0, rfl⟩ := am_find_ok hf
  obtain ⟨hd, -, -⟩ := ok.2.2 r hm0
  obtain ⟨hq, -⟩ := am_mfind_ok hm
  obtain ⟨hcode, hdes, hini, hlink, hinst, hsel, hcl⟩ := ok.2.1.2.2 _ hq
  dsimp only at hcode hdes hini hlink hinst hsel hcl
  have C0 := C
  obtain ⟨hx, hb, hml, hret, hown, hts, hK, hlk, hnm⟩ := C
  rw [hi] at hd
  subst hst
  have hfr := am_fits_ok hfit
  obtain ⟨q, hq1, hq2⟩ : ∃ q, E.1.1[ci]? = some q ∧ q.1 = M.1.cls := by
    cases hz : E.1.1[ci]? with
    | none => rw [hz] at hcl; cases hcl
    | some q => rw [hz] at hcl; exact ⟨q, rfl, Option.some.inj hcl⟩
  obtain ⟨r', hr', cell, g1, g2, g3, -⟩ := hR.2.2.2 a _ ha
  refine am_backX (vx_runV (C := M.1.cls) (As := as.map (am_cv sb base)) (rest := rest.map (am_cv sb base)) ⟨hx, hb, hml, hown, hts⟩ (hc l hP.1 D cA sb base)
    ⟨callB_of n hts (am_good ok.1 hcode) rfl rfl rfl (hts _ hini) (hts _ hlink) hdes hfr, hts _ hinst, hts _ hsel⟩
    ⟨am_blindV, ⟨cell, g1, by rw [g3]; rfl, by rw [g2, ← hq2]; exact (hK.1 ci q hq1).2.1⟩, fun U hU hW => ⟨rfl, ⟨by rw [hU]; exact hR.moved hW.alike, hK.moved hW⟩, am_V.moved hW (fun a q1 q2 => by rw [hU]; exact hS.2.1 a q1 q2) hP.2.2⟩⟩ rfl (by rw [List.length_map]; exact hn) hl.2.1 (by simp [am_cv]) ?_ hd ⟨by omega, by omega⟩) hS
    (fun v h' H1 locs1 hQ hR1 hS1 => k v h' hQ ok l D cA sb base p e s m args below meth c C0 H1 locs1 (cells + dc) (slots + ds) ls hR1 hS1 (by omega) (by omega) hl) ?_
  · show 2 * 0 + _ ≤ 8
    rw [am_wd_cv]
    omega
  · intro En ce q9 h' H1 locs1 hXa hR1 hS1 hce hcv hcl9
    exact am_catch (kx En h' hXa) ok C0 hP hR1 hS1 hce hcv hcl9 (by omega) (by omega) hl
end XRULES
