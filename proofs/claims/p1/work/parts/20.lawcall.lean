/-! THE LAW: its calls of what catches, its end -/
def R_law : String := "TraceAlignerLaw"
def lw_P (b : Addr) (xs : List Int32) (args : Array Value) (s : State) : Prop := args = #[.ref b] ∧ s.IntsAt b xs ∧ xs.length ≤ 5 ∧ (Jvm.Cond.and given_1 narrow_1).before args s = true
def lw_Q (_ : Array Value) (s : State) (o : Outcome) (t : State) : Prop := o = .returned (some (.int 1)) ∧ Framed s o t [] 600002 7302232
def lw_Z (below : List Frame) (a : Array Value) (s : State) : State → Prop := fun t => ∃ o, t.status = .running ∧ Ended t below o ∧ lw_Q a s o t
/-- what holds at the law's entry: the machine, the code, the tables' words (any of lw_tbl by 'hts w (by decide +kernel)'), the script of L ints xs at the cell b, what the Statement gives of the start (any of its parts by flat_of_before) -/
def lw_At (p : Program) (s : State) (m : MethodId) (meth : Method) (c : Code) (b L : Nat) (xs : Nat → Int32) : Prop :=
  p.tables.exec = Jvm.exec ∧ c.code = code ∧ meth.sig.returnType = ret ∧ c.maxLocals = 9 ∧ s.vm.findClass R_law = some m.cls ∧ (∀ w ∈ lw_tbl, w.before #[Value.ref b] s = true) ∧ va_X b L xs s s.heap ∧ b < s.heap.size ∧ meth.locks = false ∧ (Jvm.Cond.and given_1 narrow_1).before #[Value.ref b] s = true
def am_ZL (Z0 : am_Z) : am_Z := fun l c D cA sb base below args s t => (l.stackTraces = false ∧ am_V base s) → Z0 l c D cA sb base below args s t
def lZ0 : am_Z := fun _ _ _ _ _ base below args s t => s.heap.size ≤ base → lw_Z below args s t
def lZ : am_Z := am_ZL lZ0
def E_LWn (nm : String) : am_E := (am_G0, (F_LW, N_LW, C_LW), (⟨"TraceAlignerLaw", nm, "([I)Z"⟩, code, maxLocals, ret), r_LW_law)
theorem e_LWn (nm : String) : am_okE (E_LWn nm) := ⟨am_big_good, okT_LW, e_LW_law.2.2⟩
abbrev lB (nm : String) (pc : Nat) (lo : am_L) (st : List Value) (h : am_H) (rc rs : Nat) : Prop := am_B (E_LWn nm) room_1 lZ pc lo st h rc rs
theorem lw_retG {p : Program} {l : Launch} {e : Env} {s : State} {m : MethodId} {args : Array Value} {below : List Frame} {meth : Method} {c : Code} (hx : p.tables.exec = Jvm.exec) (hb : c.code = code) (hr : meth.sig.returnType = ret) (hlocks : meth.locks = false) {pc : Nat} {H : Heap} {ls : Array Slot} (hdg : decode code pc = .ok (.ireturn, 1)) : W p l e room_1 s m args below meth c H [] 600002 7302232 (lw_Z below args s) (F0 m pc ls [.int 1]) := by
  intro T hT X
  obtain ⟨fs, hret, hrun, hended, hW, hframe⟩ := X.leave (v := some (.int 1)) (hlocks := hlocks) (fun h => by rw [hr] at h; cases h)
  have hmeth' : T.vm.method? m = some meth := X.method'
  refine ⟨T.setFrames fs, ?_, .returned (some (.int 1)), hrun, hended, rfl, ⟨_, rfl⟩, hW, hframe⟩
  jvm_step X.here [X.here.top, hx, hb, hdg, hmeth', hr, ret, narrow_b1]
  (try refine ⟨rfl, ?_⟩); (try refine ⟨rfl, ?_⟩)
  first | (intro acts; rw [hret _ acts rfl rfl rfl]) | rw [hret _ _ rfl rfl rfl]
  exact Steps.refl _
/-- the law's own end -/
theorem lB.done {nm : String} {pc : Nat} {lo : am_L} {h : am_H} {rc rs : Nat} {r : am_Row} (hf : am_find r_LW_law pc = some r) (hi : r.2.1 = .ireturn) : lB nm pc lo [.int (nI 1)] h rc rs := by
  intro ok l D cA sb base p e s m args below meth c C H locs cells slots ls hR hS h1 h2 hl
  obtain ⟨hm0, rfl⟩ := am_find_ok hf
  obtain ⟨hd, hn, -⟩ := ok.2.2 r hm0
  obtain ⟨hx, hb, hml, hret, hown, hts, hK, hlk, hnm⟩ := C
  rw [hi] at hd
  have g1 : cells ≤ 600002 := Nat.le_trans (Nat.le_add_right _ _) h1
  have g2 : slots ≤ 7302232 := Nat.le_trans (Nat.le_add_right _ _) h2
  by_cases hb0 : s.heap.size ≤ base
  · intro T hT X
    obtain ⟨t, a, b⟩ := W.widen g1 g2 (va_forget (fun q hq => Nat.le_trans hb0 (hS.2.2 q hq)) (lw_retG (l := l) (e := e) (m := m) (args := args) (below := below) hx hb hret hlk (pc := r.1) (H := H) (ls := ls) hd)) T hT X
    exact ⟨t, a, fun _ _ => b⟩
  · intro T hT X
    exact ⟨_, Steps.refl _, fun _ h => absurd h hb0⟩
theorem am_B.more {E : am_E} {R : Room} {Z : am_Z} {pc : Nat} {lo : am_L} {st : List Value} {h : am_H} {rc rs rc' rs' : Nat} (k : am_B E R Z pc lo st h rc rs) (h1 : rc ≤ rc') (h2 : rs ≤ rs') : am_B E R Z pc lo st h rc' rs' := by
  intro ok l D cA sb base p e s m args below meth c C H locs cells slots ls hR hS g1 g2 hl
  exact k ok l D cA sb base p e s m args below meth c C H locs cells slots ls hR hS (by omega) (by omega) hl
theorem am_goodW {G : List vw_C × List Jvm.Cond} {y : MethodName} {cc : ByteArray} {maxL : Nat} {ret : Option FieldType} {hh : List (Nat × Nat × Nat × Nat)} (hg : ∀ w ∈ G.2, goodWord w = true) (hc : Jvm.Cond.codeWith y cc maxL ret hh ∈ G.2) : GoodIn G.2 (.codeWith y cc maxL ret hh :: G.2) := by
  intro w hw
  rcases List.mem_cons.mp hw with rfl | hw
  · exact ⟨hc, good_of_word (hg _ hc)⟩
  · exact ⟨hw, good_of_word (hg _ hw)⟩
theorem am_B.callSW {E : am_E} {R : Room} {Z0 : am_Z} {pc : Nat} {lo : am_L} {st rest : List Value} {h : am_H} {rc rs : Nat} {r : am_Row} {i n f dc ds : Nat} {M : am_M} {hh : List (Nat × Nat × Nat × Nat)} {as : List Value} {Qa : Option Value → am_H → Prop} (hf : am_find E.2.2.2 pc = some r) (hi : r.2.1 = .invokestatic i)
    (w1 : Jvm.Cond.codeWith M.1 M.2.1 M.2.2.1 M.2.2.2 hh ∈ E.1.2) (w2 : Jvm.Cond.methodLink E.2.2.1.1.cls i M.1 ∈ E.1.2) (w3 : Jvm.Cond.static M.1 ∈ E.1.2) (w4 : Jvm.Cond.initialized M.1.cls ∈ E.1.2) (hdes : M.1.cls ≠ "java/lang/invoke/MethodHandle" ∧ M.1.cls ≠ "java/lang/invoke/VarHandle" ∧ (parseMethodDescriptor M.1.desc).map (fun d => d.parameters.length) = some n) (hc : am_CtW E.1 M hh f dc ds as h Qa)
    (hst : st = as.reverse ++ rest) (hn : as.length = n) (hw : am_wd rest ≤ 8) (hfit : am_fits R f M.2.2.1 = true) {rc0 rs0 : Nat} (hrc : rc + dc = rc0) (hrs : rs + ds = rs0) (k : ∀ v h', Qa v h' → am_B E R (am_ZL Z0) (pc + 3) lo (v.toList ++ rest) h' rc rs) : am_B E R (am_ZL Z0) pc lo st h rc0 rs0 := by
  subst hrc; subst hrs
  intro ok l D cA sb base p e s m args below meth c C H locs cells slots ls hR hS h1 h2 hl
  by_cases hP : l.stackTraces = false ∧ am_V base s
  rotate_left
  · intro T hT X
    exact ⟨_, Steps.refl _, fun z => absurd z hP⟩
  obtain ⟨hm0, rfl⟩ := am_find_ok hf
  obtain ⟨hd, -, -⟩ := ok.2.2 r hm0
  have C0 := C
  obtain ⟨hx, hb, hml, hret, hown, hts, hK, hlk, hnm⟩ := C
  rw [hi] at hd
  subst hst
  have hfr := am_fits_ok hfit
  refine am_back (vx_runSW (hh := hh) (bytes := M.2.1) (maxL := M.2.2.1) (ret := M.2.2.2) (As := as.map (am_cv sb base)) (rest := rest.map (am_cv sb base)) ⟨hx, hb, hml, hown, hts⟩ (hc l hP.1 D cA sb base)
    ⟨⟨rfl, rfl, hfr.1, hfr.2, pay_in hts (am_goodW ok.1 w1), List.mem_cons_self⟩, hts _ w1, hts _ w4, ⟨hdes.1, hdes.2.1⟩, fun sig hz => by
      have h9 := hdes.2.2
      rw [hz] at h9
      exact (Option.some.inj h9).symm, hts _ w2, hts _ w3⟩
    ⟨am_blindV, fun U hU hW => ⟨rfl, ⟨by rw [hU]; exact hR.moved hW.alike, hK.moved hW⟩, am_V.moved hW (fun a q1 q2 => by rw [hU]; exact hS.2.1 a q1 q2) hP.2⟩⟩ rfl (by rw [List.length_map]; exact hn) hl.2.1 (by simp) ?_ hd ⟨by omega, by omega⟩) hS
    (fun v h' H1 locs1 hQ hR1 hS1 => k v h' hQ ok l D cA sb base p e s m args below meth c C0 H1 locs1 (cells + dc) (slots + ds) ls hR1 hS1 (by omega) (by omega) hl)
  show 2 * 0 + _ ≤ 8
  rw [am_wd_cv]
  omega
