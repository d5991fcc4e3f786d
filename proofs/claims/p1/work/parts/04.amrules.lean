/-! THE PLAIN MACHINE: a method's tables, its rules, its contract. -/
abbrev am_M : Type := MethodName × ByteArray × Nat × Option FieldType
/-- 'new': pool index, class, the fields at first -/
abbrev am_NR : Type := Nat × Nat × List Value
/-- a call: pool index, kind (0 virtual, 1 static, 2 special, 3 4 5 the same of a nest mate), the receiver's class, how many parameters, the method -/
abbrev am_MR : Type := Nat × Nat × Nat × Nat × am_M
def am_okN (own : String) (cl : List vw_C) (big : List Jvm.Cond) (q : am_NR) : Prop :=
  ∃ (C : String) (T : u_T) (N : Nat), cl[q.2.1]? = some (C, T, N) ∧ am_okC big (C, T, N) ∧ Jvm.Cond.classLink own q.1 C ∈ big ∧ Jvm.Cond.instantiable C N ∈ big ∧ Jvm.Cond.initialized C ∈ big ∧
    (∀ k, k < N → (parseFieldDescriptor (T k).2.2.1).map defaultValue = q.2.2[k]?) ∧ q.2.2.length = N ∧ q.2.2.all (fun v => !(am_isk 1 v) || v == .null) = true
def am_okM (own : String) (cl : List vw_C) (big : List Jvm.Cond) (q : am_MR) : Prop :=
  Jvm.Cond.code q.2.2.2.2.1 q.2.2.2.2.2.1 q.2.2.2.2.2.2.1 q.2.2.2.2.2.2.2 ∈ big ∧
  (q.2.2.2.2.1.cls ≠ "java/lang/invoke/MethodHandle" ∧ q.2.2.2.2.1.cls ≠ "java/lang/invoke/VarHandle" ∧ (parseMethodDescriptor q.2.2.2.2.1.desc).map (fun d => d.parameters.length) = some q.2.2.2.1) ∧
  Jvm.Cond.initialized q.2.2.2.2.1.cls ∈ big ∧
  match q.2.1 with
  | 0 => Jvm.Cond.methodLink own q.1 q.2.2.2.2.1 ∈ big ∧ Jvm.Cond.instanceMethod q.2.2.2.2.1 ∈ big ∧ Jvm.Cond.selects q.2.2.2.2.1.cls q.2.2.2.2.1 q.2.2.2.2.1 ∈ big ∧ (cl[q.2.2.1]?).map (·.1) = some q.2.2.2.2.1.cls
  | 1 => Jvm.Cond.methodLink own q.1 q.2.2.2.2.1 ∈ big ∧ Jvm.Cond.static q.2.2.2.2.1 ∈ big
  | 2 => Jvm.Cond.methodLink own q.1 q.2.2.2.2.1 ∈ big ∧ Jvm.Cond.instanceMethod q.2.2.2.2.1 ∈ big ∧ q.2.2.2.2.1.name = "<init>" ∧ q.2.2.2.2.2.2.2 = none
  | 4 => ∃ host, (own, q.1, q.2.2.2.2.1, host) ∈ am_nst ∧ Jvm.Cond.static q.2.2.2.2.1 ∈ big
  | 5 => ∃ host, (own, q.1, q.2.2.2.2.1, host) ∈ am_nst ∧ Jvm.Cond.instanceMethod q.2.2.2.2.1 ∈ big ∧ q.2.2.2.2.1.name = "<init>" ∧ q.2.2.2.2.2.2.2 = none
  | _ => False
/-- the classes, the words, a class' tables (fields, new, calls), a method and its rows -/
abbrev am_E : Type := (List vw_C × List Jvm.Cond) × (List am_FR × List am_NR × List am_MR) × am_M × List am_Row
def am_okT (cl : List vw_C) (big : List Jvm.Cond) (own : String) (t : List am_FR × List am_NR × List am_MR) : Prop :=
  (∀ q ∈ t.1, am_okF own cl big q) ∧ (∀ q ∈ t.2.1, am_okN own cl big q) ∧ (∀ q ∈ t.2.2, am_okM own cl big q)
def am_okE (E : am_E) : Prop :=
  (∀ w ∈ E.1.2, goodWord w = true) ∧ am_okT E.1.1 E.1.2 E.2.2.1.1.cls E.2.1 ∧ (∀ r ∈ E.2.2.2, am_okRow E.2.2.1.1.cls E.2.2.1.2.1 E.1.2 r)
def am_Cx (E : am_E) (D : va_G) (cA : Nat → ClassId) (p : Program) (s : State) (m : MethodId) (args : Array Value) (meth : Method) (c : Code) : Prop :=
  p.tables.exec = Jvm.exec ∧ c.code = E.2.2.1.2.1 ∧ c.maxLocals = E.2.2.1.2.2.1 ∧ meth.sig.returnType = E.2.2.1.2.2.2 ∧ s.vm.findClass E.2.2.1.1.cls = some m.cls ∧ (∀ w ∈ E.1.2, w.before args s = true) ∧ am_K D E.1.1 cA am_tys s ∧ meth.locks = false ∧ meth.name = E.2.2.1.1.name
/-- what is owed at the end, by the walk's places -/
abbrev am_Z : Type := Launch → Code → va_G → (Nat → ClassId) → Nat → Nat → List Frame → Array Value → State → State → Prop
/-- from here on the walk owes what Z says; rc cells of rs slots may still be made -/
def am_B (E : am_E) (R : Room) (Z : am_Z) (pc : Nat) (lo : am_L) (st : List Value) (h : am_H) (rc rs : Nat) : Prop :=
  am_okE E → ∀ (l : Launch) (D : va_G) (cA : Nat → ClassId) (sb base : Nat) (p : Program) (e : Env) (s : State) (m : MethodId) (args : Array Value) (below : List Frame) (meth : Method) (c : Code),
    am_Cx E D cA p s m args meth c → am_W D E.1.1 cA sb base p l e R s m args below meth c E.2.2.1.2.2.1 (Z l c D cA sb base below args s) pc lo st h rc rs
/-- a method's end: it answers v and leaves the cells h' -/
def am_Qc (D : va_G) (cl : List vw_C) (cA : Nat → ClassId) (sb base : Nat) (Qa : Option Value → am_H → Prop) : Array Value → State → Outcome → State → Prop := fun _ st oc t =>
  (∃ (v : Option Value) (h' : am_H), oc = .returned (v.map (am_cv sb base)) ∧ Qa v h' ∧ am_R D cl cA sb base t h' t.heap ∧ am_K D cl cA am_tys t) ∧ va_F (fun q => base ≤ q) st t
def am_rm (f dc ds : Nat) : Room := { frames := f, cells := dc, slots := ds, locals := 36 * f }
def am_ZM (E : am_E) (dc ds : Nat) (Qa : Option Value → am_H → Prop) : am_Z := fun _ _ D cA sb base below args s => MQ below (am_Qc D E.1.1 cA sb base Qa) args s dc ds (fun q => base ≤ q)
/-- THE CONTRACT: called with av at the cells h, the method ends, with Qa; dc cells of ds slots come at most; f frames lie over its own -/
def am_Ct (G : List vw_C × List Jvm.Cond) (M : am_M) (f dc ds : Nat) (av : List Value) (h : am_H) (Qa : Option Value → am_H → Prop) : Prop :=
  ∀ (l : Launch) (D : va_G) (cA : Nat → ClassId) (sb base : Nat), Met l M.1 (.code M.1 M.2.1 M.2.2.1 M.2.2.2 :: G.2) (am_rm f dc ds)
    (va_Pc (av.map (am_cv sb base)) (fun U => am_R D G.1 cA sb base U h U.heap ∧ am_K D G.1 cA am_tys U)) (am_Qc D G.1 cA sb base Qa) dc ds (fun q => base ≤ q)
theorem am_lo_mem {g : Value → Value} (hg : ∀ v, (g v).category = v.category) : ∀ (vs : List Value) (k : Nat), ∀ q ∈ am_lp g k (am_lo vs), q ∈ lv_args k (vs.map g)
  | [], _, q, h => by simp [am_lo, am_lp] at h
  | v :: t, k, q, h => by
    have hc := hg v
    show q ∈ (k, g v) :: lv_args (if (g v).category = 2 then k + 2 else k + 1) (t.map g)
    rw [hc]
    cases v <;> simp only [am_lo, am_lp, List.mem_cons] at h <;> (rcases h with h | h; exact List.mem_cons.mpr (Or.inl h); exact List.mem_cons_of_mem _ (am_lo_mem hg t _ q h))
theorem am_lo_len {g : Value → Value} (hg : ∀ v, (g v).category = v.category) : ∀ (vs : List Value), (lg_sl (vs.map g)).length = (am_lo vs).length
  | [] => rfl
  | v :: t => by
    have hc := hg v
    have ih := am_lo_len hg t
    have e : lg_sl ((v :: t).map g) = (if (g v).category = 2 then [Slot.val (g v), .second] else [.val (g v)]) ++ lg_sl (t.map g) := by simp [lg_sl]
    rw [e, hc, List.length_append, ih]
    cases v <;> simp [am_lo, Value.category] <;> omega
theorem am_lp_pad {g : Value → Value} {lo : am_L} {n : Nat} {q : Nat × Value} {k : Nat} (h : q ∈ am_lp g k (lo ++ List.replicate n none)) : q ∈ am_lp g k lo := by
  obtain ⟨h1, v, h2, h3⟩ := am_lp_mem.mp h
  refine am_lp_mem.mpr ⟨h1, v, ?_, h3⟩
  by_cases e : q.1 - k < lo.length
  · rwa [List.getElem?_append_left e] at h2
  · rw [List.getElem?_append_right (by omega), List.getElem?_replicate] at h2
    split at h2 <;> cases h2
theorem am_entry {sb base : Nat} {vs : List Value} {n : Nat} (hn : (am_lo vs).length ≤ n) :
    am_LR (am_cv sb base) ((lg_sl (vs.map (am_cv sb base)) ++ List.replicate (n - (lg_sl (vs.map (am_cv sb base))).length) Slot.unset).toArray) n (am_lo0 vs n) := by
  have hl := am_lo_len (am_cv_cat sb base) vs
  have h1 := lv_entry (vs.map (am_cv sb base)) (n := n) (by rw [hl]; exact hn)
  refine ⟨by unfold am_lo0; rw [List.length_append, List.length_replicate]; omega, h1.1, h1.2.1, fun q hq => h1.2.2 q ?_⟩
  exact am_lo_mem (am_cv_cat sb base) vs 0 q (am_lp_pad hq)
/-- a contract out of a walk of its body -/
theorem am_Ct.of {E : am_E} {f dc ds : Nat} {av : List Value} {h : am_H} {Qa : Option Value → am_H → Prop} (hE : am_okE E) (hy : plainName E.2.2.1.1.cls = true) (hn : (am_lo av).length ≤ E.2.2.1.2.2.1)
    (k : am_B E (am_rm f dc ds) (am_ZM E dc ds Qa) 0 (am_lo0 av E.2.2.1.2.2.1) [] h dc ds) : am_Ct E.1 E.2.2.1 f dc ds av h Qa := by
  intro l D cA sb base
  refine Met.ofW (cc := E.2.2.1.2.1) (maxL := E.2.2.1.2.2.1) (ret := E.2.2.1.2.2.2) hy rfl ?_
  intro p e s m args below meth c s₁ B hml hv
  obtain ⟨rfl, hR, hK⟩ := hv
  have hts := atoms_spec (ws := .code E.2.2.1.1 E.2.2.1.2.1 E.2.2.1.2.2.1 E.2.2.1.2.2.2 :: E.1.2) B.pre
  have hown : s.vm.findClass E.2.2.1.1.cls = some m.cls := findClass_of_methodNamed B.named
  have K := k hE l D cA sb base p e s m _ below meth c ⟨B.exec, B.bytes, hml, B.returns, hown, fun w hw => hts w (List.mem_cons_of_mem _ hw), hK, B.notSynchronized, (name_of_methodNamed B.named B.method).1⟩
    s.heap [] 0 0 _ hR va_S.rf (by show 0 + dc ≤ dc; omega) (by show 0 + ds ≤ ds; omega) (am_entry hn)
  rw [lg_entry_eq]
  exact K
section RULES
variable {E : am_E} {R : Room} {Z : am_Z} {pc : Nat} {lo lo' : am_L} {st st' : List Value} {h h' : am_H} {rc rs : Nat} {r : am_Row}
/-- one step that neither branches nor calls nor makes anything; heap steps as far as the cells lie open -/
def am_ffind : List am_FR → Nat → Option am_FR
  | [], _ => none
  | q :: t, i => bif Nat.beq q.1 i then some q else am_ffind t i
theorem am_ffind_ok : ∀ {t : List am_FR} {i : Nat} {q : am_FR}, am_ffind t i = some q → q ∈ t ∧ q.1 = i
  | [], _, _, h => nomatch h
  | q0 :: t, i, q, h => by
    unfold am_ffind at h
    cases e : Nat.beq q0.1 i <;> rw [e] at h <;> simp only [cond_true, cond_false] at h
    · have := am_ffind_ok h
      exact ⟨List.mem_cons_of_mem _ this.1, this.2⟩
    · cases h
      exact ⟨List.mem_cons_self, Nat.eq_of_beq_eq_true e⟩
/-- what kind an instruction is: 0 by itself, 1 a heap step, 2 a stop -/
def am_kind : Instr → Nat
  | .ifCond _ _ => 2 | .if_icmp _ _ => 2 | .if_acmp _ _ => 2 | .ifnull _ => 2 | .ifnonnull _ => 2 | .tableswitch _ _ _ _ => 2 | .lookupswitch _ _ => 2
  | .invokevirtual _ => 2 | .invokestatic _ => 2 | .invokespecial _ => 2 | .new _ => 2 | .newarray _ => 2 | .anewarray _ => 2 | .multianewarray _ _ => 2
  | .ireturn => 2 | .areturn => 2 | .lreturn => 2 | .dreturn => 2 | .return_ => 2 | .athrow => 2 | .aastore => 2 | .ddiv => 2 | .dsub => 2 | .irem => 3 | .idiv => 3
  | .getfield _ => 1 | .putfield _ => 1 | .iaload => 1 | .baload => 1 | .laload => 1 | .daload => 1 | .aaload => 1 | .iastore => 1 | .bastore => 1 | .lastore => 1 | .dastore => 1 | .arraylength => 1
  | _ => 0
def am_pure (r : am_Row) (lo : am_L) (st : List Value) : Option (Nat × am_L × List Value) := match am_push r lo with
  | some v => some (r.2.2.1, lo, v :: st)
  | none => match am_stk r.2.1 st with
    | some st' => some (r.2.2.1, lo, st')
    | none => match am_sto r.2.1 st lo with
      | some q => some (r.2.2.1, q.1, q.2)
      | none => match r.2.1 with
        | .goto _ => some (r.2.2.2.1, lo, st)
        | .iinc j _ => match r.2.2.2.2, lo[j]? with
          | .int y, some (some (.int x)) => match am_st1 lo j (.int (x + y)) with
            | some lo' => some (r.2.2.1, lo', st)
            | none => none
          | _, _ => none
        | _ => none
theorem am_B.pure {pc' : Nat} (hf : am_find E.2.2.2 pc = some r) (hp : am_pure r lo st = some (pc', lo', st')) (k : am_B E R Z pc' lo' st' h rc rs) : am_B E R Z pc lo st h rc rs := by
  intro ok l D cA sb base p e s m args below meth c C
  have K := k ok l D cA sb base p e s m args below meth c C
  obtain ⟨hm, rfl⟩ := am_find_ok hf
  have hr := ok.2.2 r hm
  obtain ⟨hx, hb, hml, hret, hown, hts, hK, hlk, hnm⟩ := C
  unfold am_pure at hp
  split at hp
  · rename_i v hv
    cases hp
    exact am_push_ok hx hb hown hts hr hv K
  · split at hp
    · rename_i s' hv
      cases hp
      exact am_stk_ok hx hb hr hv K
    · split at hp
      · rename_i q hv
        cases hp
        exact am_sto_ok hx hb hr hv K
      · split at hp
        · rename_i hi
          cases hp
          exact am_goto_ok hx hb hr hi K
        · rename_i j n hi
          split at hp
          · rename_i y x hy hj
            split at hp
            · rename_i lo1 hs
              cases hp
              exact am_iinc_ok hx hb hr hi hy hj hs K
            · cases hp
          · cases hp
        · cases hp
theorem am_B.get {a ci : Nat} {q : am_FR} {vs : List Value} {v : Value} (hf : am_find E.2.2.2 pc = some r) {i : Nat} (hi : r.2.1 = .getfield i) (hq : am_ffind E.2.1.1 i = some q) (ha : h[a]? = some (.inr (ci, vs))) (hci : ci = q.2.1) (hv : vs[q.2.2.1]? = some v)
    (k : am_B E R Z r.2.2.1 lo (v :: st) h rc rs) : am_B E R Z pc lo (.ref a :: st) h rc rs := by
  intro ok l D cA sb base p e s m args below meth c C
  have K := k ok l D cA sb base p e s m args below meth c C
  obtain ⟨hm, rfl⟩ := am_find_ok hf
  obtain ⟨hqm, rfl⟩ := am_ffind_ok hq
  obtain ⟨hx, hb, hml, hret, hown, hts, hK, hlk, hnm⟩ := C
  exact am_get_ok hx hb hown hts hK (ok.2.2 r hm) (ok.2.1.1 q hqm) hi ha hci hv K
theorem am_B.put {a ci : Nat} {q : am_FR} {vs : List Value} {v : Value} (hf : am_find E.2.2.2 pc = some r) {i : Nat} (hi : r.2.1 = .putfield i) (hq : am_ffind E.2.1.1 i = some q) (ha : h[a]? = some (.inr (ci, vs))) (hci : ci = q.2.1) (hv : q.2.2.1 < vs.length) (hfit : am_fit q.2.2.2.1 v = true)
    (hfin : q.2.2.2.2 = true → E.2.2.1.1.name = "<init>") (k : am_B E R Z r.2.2.1 lo st (h.set a (.inr (ci, vs.set q.2.2.1 v))) rc rs) : am_B E R Z pc lo (v :: .ref a :: st) h rc rs := by
  intro ok l D cA sb base p e s m args below meth c C
  have K := k ok l D cA sb base p e s m args below meth c C
  obtain ⟨hm, rfl⟩ := am_find_ok hf
  obtain ⟨hqm, rfl⟩ := am_ffind_ok hq
  obtain ⟨hx, hb, hml, hret, hown, hts, hK, hlk, hnm⟩ := C
  exact am_put_ok hx hb hown hts hK (ok.2.2 r hm) (ok.2.1.1 q hqm) hi (fun hh => hnm.trans (hfin hh)) ha hci hv hfit K
theorem am_B.ald {a t : Nat} {x : vp_A} {v : Value} {j : Int32} (hf : am_find E.2.2.2 pc = some r) (ha : h[a]? = some (.inl (t, x))) (hin : vp_in j x.1) (hv : am_aget r.2.1 t x j.toNatClampNeg = some v)
    (k : am_B E R Z r.2.2.1 lo (v :: st) h rc rs) : am_B E R Z pc lo (.int j :: .ref a :: st) h rc rs := by
  intro ok l D cA sb base p e s m args below meth c C
  have K := k ok l D cA sb base p e s m args below meth c C
  obtain ⟨hm, rfl⟩ := am_find_ok hf
  obtain ⟨hx, hb, hml, hret, hown, hts, hK, hlk, hnm⟩ := C
  exact am_ald_ok hx hb hK (ok.2.2 r hm) ha hin hv K
theorem am_B.ast {a t : Nat} {x y : vp_A} {v : Value} {j : Int32} (hf : am_find E.2.2.2 pc = some r) (ha : h[a]? = some (.inl (t, x))) (hin : vp_in j x.1) (hv : am_aset r.2.1 t x j.toNatClampNeg v = some y)
    (k : am_B E R Z r.2.2.1 lo st (h.set a (.inl (t, y))) rc rs) : am_B E R Z pc lo (v :: .int j :: .ref a :: st) h rc rs := by
  intro ok l D cA sb base p e s m args below meth c C
  have K := k ok l D cA sb base p e s m args below meth c C
  obtain ⟨hm, rfl⟩ := am_find_ok hf
  obtain ⟨hx, hb, hml, hret, hown, hts, hK, hlk, hnm⟩ := C
  exact am_ast_ok hx hb hK (ok.2.2 r hm) ha hin hv K
theorem am_B.alen {a t : Nat} {x : vp_A} (hf : am_find E.2.2.2 pc = some r) (hi : r.2.1 = .arraylength) (ha : h[a]? = some (.inl (t, x))) (ht : (t < 6 ∧ am_on t = true) ∨ t = 99)
    (k : am_B E R Z r.2.2.1 lo (.int (nI x.1) :: st) h rc rs) : am_B E R Z pc lo (.ref a :: st) h rc rs := by
  intro ok l D cA sb base p e s m args below meth c C
  have K := k ok l D cA sb base p e s m args below meth c C
  obtain ⟨hm, rfl⟩ := am_find_ok hf
  obtain ⟨hx, hb, hml, hret, hown, hts, hK, hlk, hnm⟩ := C
  exact am_alen_ok hx hb hK (ok.2.2 r hm) hi ha ht K
/-- as many steps as go by themselves; hp: heap steps too; sp: places where it stops -/
def am_in : List Nat → Nat → Bool
  | [], _ => false
  | a :: t, b => Nat.beq a b || am_in t b
def am_heap (FL : List am_FR) (r : am_Row) (st : List Value) (h : am_H) : Option (List Value × am_H) := match r.2.1, st with
  | .getfield i, .ref a :: st => match am_ffind FL i, h[a]? with
    | some q, some (.inr o) => bif Nat.beq o.1 q.2.1 then match o.2[q.2.2.1]? with
      | some v => some (v :: st, h)
      | none => none else none
    | _, _ => none
  | .putfield i, v :: .ref a :: st => match am_ffind FL i, h[a]? with
    | some q, some (.inr o) => bif Nat.beq o.1 q.2.1 && Nat.blt q.2.2.1 o.2.length && am_fit q.2.2.2.1 v && !q.2.2.2.2 then some (st, h.set a (.inr (o.1, o.2.set q.2.2.1 v))) else none
    | _, _ => none
  | .arraylength, .ref a :: st => match h[a]? with
    | some (.inl q) => bif (Nat.blt q.1 6 && am_on q.1) || Nat.beq q.1 99 then some (.int (nI q.2.1) :: st, h) else none
    | _ => none
  | _, _ => none
def am_run (FL : List am_FR) (tb : List am_Row) (hp : Bool) (sp : List Nat) : Nat → Nat → am_L → List Value → am_H → Option (Nat × am_L × List Value × am_H)
  | 0, pc, lo, st, h => some (pc, lo, st, h)
  | n + 1, pc, lo, st, h => match am_find tb pc with
    | none => some (pc, lo, st, h)
    | some r => match am_kind r.2.1 with
      | 0 => match am_pure r lo st with
        | some q => bif am_in sp q.1 then some (q.1, q.2.1, q.2.2, h) else am_run FL tb hp sp n q.1 q.2.1 q.2.2 h
        | none => none
      | 1 => bif hp then match am_heap FL r st h with
        | some q => am_run FL tb hp sp n r.2.2.1 lo q.1 q.2
        | none => some (pc, lo, st, h) else some (pc, lo, st, h)
      | _ => some (pc, lo, st, h)
theorem am_B.heap (hf : am_find E.2.2.2 pc = some r) (hp : am_heap E.2.1.1 r st h = some (st', h')) (k : am_B E R Z r.2.2.1 lo st' h' rc rs) : am_B E R Z pc lo st h rc rs := by
  unfold am_heap at hp
  split at hp
  · rename_i i a st hi
    split at hp
    · rename_i q o hq ho
      cases e : Nat.beq o.1 q.2.1 <;> rw [e] at hp <;> simp only [cond_true, cond_false] at hp
      · cases hp
      · split at hp
        · rename_i v hv
          cases hp
          exact am_B.get hf hi hq ho (Nat.eq_of_beq_eq_true e) hv k
        · cases hp
    · cases hp
  · rename_i i v a st hi
    split at hp
    · rename_i q o hq ho
      cases e : (Nat.beq o.1 q.2.1 && Nat.blt q.2.2.1 o.2.length && am_fit q.2.2.2.1 v && !q.2.2.2.2) <;> rw [e] at hp <;> simp only [cond_true, cond_false] at hp
      · cases hp
      · cases hp
        simp only [Bool.and_eq_true, Bool.not_eq_true'] at e
        obtain ⟨⟨⟨e1, e2⟩, e3⟩, e4⟩ := e
        exact am_B.put hf hi hq ho (Nat.eq_of_beq_eq_true e1) (Nat.le_of_ble_eq_true e2) e3 (fun hh => by rw [e4] at hh; cases hh) k
    · cases hp
  · rename_i a st hi
    split at hp
    · rename_i q ho
      cases e : ((Nat.blt q.1 6 && am_on q.1) || Nat.beq q.1 99) <;> rw [e] at hp <;> simp only [cond_true, cond_false] at hp
      · cases hp
      · cases hp
        refine am_B.alen hf hi ho ?_ k
        rcases Bool.or_eq_true_iff.mp e with e | e
        · simp only [Bool.and_eq_true] at e
          exact Or.inl ⟨Nat.le_of_ble_eq_true e.1, e.2⟩
        · exact Or.inr (Nat.eq_of_beq_eq_true e)
    · cases hp
  · cases hp
theorem am_B.run {hp : Bool} {sp : List Nat} : ∀ (n : Nat) {pc pc' : Nat} {lo lo' : am_L} {st st' : List Value} {h h' : am_H}, am_run E.2.1.1 E.2.2.2 hp sp n pc lo st h = some (pc', lo', st', h') → am_B E R Z pc' lo' st' h' rc rs → am_B E R Z pc lo st h rc rs
  | 0, _, _, _, _, _, _, _, _, hr, k => by
    simp only [am_run, Option.some.injEq, Prod.mk.injEq] at hr
    obtain ⟨rfl, rfl, rfl, rfl⟩ := hr
    exact k
  | n + 1, pc, pc', lo, lo', st, st', h, h', hr, k => by
    unfold am_run at hr
    split at hr
    · simp only [Option.some.injEq, Prod.mk.injEq] at hr
      obtain ⟨rfl, rfl, rfl, rfl⟩ := hr
      exact k
    · rename_i r hf
      split at hr
      · split at hr
        · rename_i q hq
          refine am_B.pure hf hq ?_
          cases e : am_in sp q.1 <;> rw [e] at hr <;> simp only [cond_true, cond_false] at hr
          · exact am_B.run n hr k
          · simp only [Option.some.injEq, Prod.mk.injEq] at hr
            obtain ⟨rfl, rfl, rfl, rfl⟩ := hr
            exact k
        · cases hr
      · cases hp <;> simp only [cond_true, cond_false] at hr
        · simp only [Option.some.injEq, Prod.mk.injEq] at hr
          obtain ⟨rfl, rfl, rfl, rfl⟩ := hr
          exact k
        · split at hr
          · rename_i q hq
            exact am_B.heap hf hq (am_B.run n hr k)
          · simp only [Option.some.injEq, Prod.mk.injEq] at hr
            obtain ⟨rfl, rfl, rfl, rfl⟩ := hr
            exact k
      · simp only [Option.some.injEq, Prod.mk.injEq] at hr
        obtain ⟨rfl, rfl, rfl, rfl⟩ := hr
        exact k
theorem am_B.if_eq {x : Int32} {off : Int} (hf : am_find E.2.2.2 pc = some r) (hi : r.2.1 = .ifCond .eq off) (kt : x = 0 → am_B E R Z r.2.2.2.1 lo st h rc rs) (kf : ¬ x = 0 → am_B E R Z r.2.2.1 lo st h rc rs) : am_B E R Z pc lo (.int x :: st) h rc rs := by
  intro ok l D cA sb base p e s m args below meth c C
  obtain ⟨hm, rfl⟩ := am_find_ok hf
  have hr := ok.2.2 r hm
  obtain ⟨pc, i, nx, tg, kv⟩ := r
  obtain ⟨hd, hn, hk⟩ := hr
  dsimp only at hd hn hi kt kf ⊢
  subst hi hn
  intro H locs cells slots ls hR hS h1 h2 hl
  exact lv_if_eq C.1 C.2.1 hd (of_decide_eq_true hk) (fun q => kt q ok l D cA sb base p e s m args below meth c C H locs cells slots ls hR hS h1 h2 hl) (fun q => kf q ok l D cA sb base p e s m args below meth c C H locs cells slots ls hR hS h1 h2 hl)
theorem am_B.icmp_eq {x y : Int32} {off : Int} (hf : am_find E.2.2.2 pc = some r) (hi : r.2.1 = .if_icmp .eq off) (kt : x = y → am_B E R Z r.2.2.2.1 lo st h rc rs) (kf : ¬ x = y → am_B E R Z r.2.2.1 lo st h rc rs) : am_B E R Z pc lo (.int y :: .int x :: st) h rc rs := by
  intro ok l D cA sb base p e s m args below meth c C
  obtain ⟨hm, rfl⟩ := am_find_ok hf
  have hr := ok.2.2 r hm
  obtain ⟨pc, i, nx, tg, kv⟩ := r
  obtain ⟨hd, hn, hk⟩ := hr
  dsimp only at hd hn hi kt kf ⊢
  subst hi hn
  intro H locs cells slots ls hR hS h1 h2 hl
  exact lv_icmp_eq C.1 C.2.1 hd (of_decide_eq_true hk) (fun q => kt q ok l D cA sb base p e s m args below meth c C H locs cells slots ls hR hS h1 h2 hl) (fun q => kf q ok l D cA sb base p e s m args below meth c C H locs cells slots ls hR hS h1 h2 hl)
theorem am_B.if_ne {x : Int32} {off : Int} (hf : am_find E.2.2.2 pc = some r) (hi : r.2.1 = .ifCond .ne off) (kt : ¬ x = 0 → am_B E R Z r.2.2.2.1 lo st h rc rs) (kf : x = 0 → am_B E R Z r.2.2.1 lo st h rc rs) : am_B E R Z pc lo (.int x :: st) h rc rs := by
  intro ok l D cA sb base p e s m args below meth c C
  obtain ⟨hm, rfl⟩ := am_find_ok hf
  have hr := ok.2.2 r hm
  obtain ⟨pc, i, nx, tg, kv⟩ := r
  obtain ⟨hd, hn, hk⟩ := hr
  dsimp only at hd hn hi kt kf ⊢
  subst hi hn
  intro H locs cells slots ls hR hS h1 h2 hl
  exact lv_if_ne C.1 C.2.1 hd (of_decide_eq_true hk) (fun q => kt q ok l D cA sb base p e s m args below meth c C H locs cells slots ls hR hS h1 h2 hl) (fun q => kf q ok l D cA sb base p e s m args below meth c C H locs cells slots ls hR hS h1 h2 hl)
theorem am_B.icmp_ne {x y : Int32} {off : Int} (hf : am_find E.2.2.2 pc = some r) (hi : r.2.1 = .if_icmp .ne off) (kt : ¬ x = y → am_B E R Z r.2.2.2.1 lo st h rc rs) (kf : x = y → am_B E R Z r.2.2.1 lo st h rc rs) : am_B E R Z pc lo (.int y :: .int x :: st) h rc rs := by
  intro ok l D cA sb base p e s m args below meth c C
  obtain ⟨hm, rfl⟩ := am_find_ok hf
  have hr := ok.2.2 r hm
  obtain ⟨pc, i, nx, tg, kv⟩ := r
  obtain ⟨hd, hn, hk⟩ := hr
  dsimp only at hd hn hi kt kf ⊢
  subst hi hn
  intro H locs cells slots ls hR hS h1 h2 hl
  exact lv_icmp_ne C.1 C.2.1 hd (of_decide_eq_true hk) (fun q => kt q ok l D cA sb base p e s m args below meth c C H locs cells slots ls hR hS h1 h2 hl) (fun q => kf q ok l D cA sb base p e s m args below meth c C H locs cells slots ls hR hS h1 h2 hl)
theorem am_B.if_lt {x : Int32} {off : Int} (hf : am_find E.2.2.2 pc = some r) (hi : r.2.1 = .ifCond .lt off) (kt : x < 0 → am_B E R Z r.2.2.2.1 lo st h rc rs) (kf : ¬ x < 0 → am_B E R Z r.2.2.1 lo st h rc rs) : am_B E R Z pc lo (.int x :: st) h rc rs := by
  intro ok l D cA sb base p e s m args below meth c C
  obtain ⟨hm, rfl⟩ := am_find_ok hf
  have hr := ok.2.2 r hm
  obtain ⟨pc, i, nx, tg, kv⟩ := r
  obtain ⟨hd, hn, hk⟩ := hr
  dsimp only at hd hn hi kt kf ⊢
  subst hi hn
  intro H locs cells slots ls hR hS h1 h2 hl
  exact lv_if_lt C.1 C.2.1 hd (of_decide_eq_true hk) (fun q => kt q ok l D cA sb base p e s m args below meth c C H locs cells slots ls hR hS h1 h2 hl) (fun q => kf q ok l D cA sb base p e s m args below meth c C H locs cells slots ls hR hS h1 h2 hl)
theorem am_B.icmp_lt {x y : Int32} {off : Int} (hf : am_find E.2.2.2 pc = some r) (hi : r.2.1 = .if_icmp .lt off) (kt : x < y → am_B E R Z r.2.2.2.1 lo st h rc rs) (kf : ¬ x < y → am_B E R Z r.2.2.1 lo st h rc rs) : am_B E R Z pc lo (.int y :: .int x :: st) h rc rs := by
  intro ok l D cA sb base p e s m args below meth c C
  obtain ⟨hm, rfl⟩ := am_find_ok hf
  have hr := ok.2.2 r hm
  obtain ⟨pc, i, nx, tg, kv⟩ := r
  obtain ⟨hd, hn, hk⟩ := hr
  dsimp only at hd hn hi kt kf ⊢
  subst hi hn
  intro H locs cells slots ls hR hS h1 h2 hl
  exact lv_icmp_lt C.1 C.2.1 hd (of_decide_eq_true hk) (fun q => kt q ok l D cA sb base p e s m args below meth c C H locs cells slots ls hR hS h1 h2 hl) (fun q => kf q ok l D cA sb base p e s m args below meth c C H locs cells slots ls hR hS h1 h2 hl)
theorem am_B.if_ge {x : Int32} {off : Int} (hf : am_find E.2.2.2 pc = some r) (hi : r.2.1 = .ifCond .ge off) (kt : 0 ≤ x → am_B E R Z r.2.2.2.1 lo st h rc rs) (kf : ¬ 0 ≤ x → am_B E R Z r.2.2.1 lo st h rc rs) : am_B E R Z pc lo (.int x :: st) h rc rs := by
  intro ok l D cA sb base p e s m args below meth c C
  obtain ⟨hm, rfl⟩ := am_find_ok hf
  have hr := ok.2.2 r hm
  obtain ⟨pc, i, nx, tg, kv⟩ := r
  obtain ⟨hd, hn, hk⟩ := hr
  dsimp only at hd hn hi kt kf ⊢
  subst hi hn
  intro H locs cells slots ls hR hS h1 h2 hl
  exact lv_if_ge C.1 C.2.1 hd (of_decide_eq_true hk) (fun q => kt q ok l D cA sb base p e s m args below meth c C H locs cells slots ls hR hS h1 h2 hl) (fun q => kf q ok l D cA sb base p e s m args below meth c C H locs cells slots ls hR hS h1 h2 hl)
theorem am_B.icmp_ge {x y : Int32} {off : Int} (hf : am_find E.2.2.2 pc = some r) (hi : r.2.1 = .if_icmp .ge off) (kt : y ≤ x → am_B E R Z r.2.2.2.1 lo st h rc rs) (kf : ¬ y ≤ x → am_B E R Z r.2.2.1 lo st h rc rs) : am_B E R Z pc lo (.int y :: .int x :: st) h rc rs := by
  intro ok l D cA sb base p e s m args below meth c C
  obtain ⟨hm, rfl⟩ := am_find_ok hf
  have hr := ok.2.2 r hm
  obtain ⟨pc, i, nx, tg, kv⟩ := r
  obtain ⟨hd, hn, hk⟩ := hr
  dsimp only at hd hn hi kt kf ⊢
  subst hi hn
  intro H locs cells slots ls hR hS h1 h2 hl
  exact lv_icmp_ge C.1 C.2.1 hd (of_decide_eq_true hk) (fun q => kt q ok l D cA sb base p e s m args below meth c C H locs cells slots ls hR hS h1 h2 hl) (fun q => kf q ok l D cA sb base p e s m args below meth c C H locs cells slots ls hR hS h1 h2 hl)
theorem am_B.if_gt {x : Int32} {off : Int} (hf : am_find E.2.2.2 pc = some r) (hi : r.2.1 = .ifCond .gt off) (kt : 0 < x → am_B E R Z r.2.2.2.1 lo st h rc rs) (kf : ¬ 0 < x → am_B E R Z r.2.2.1 lo st h rc rs) : am_B E R Z pc lo (.int x :: st) h rc rs := by
  intro ok l D cA sb base p e s m args below meth c C
  obtain ⟨hm, rfl⟩ := am_find_ok hf
  have hr := ok.2.2 r hm
  obtain ⟨pc, i, nx, tg, kv⟩ := r
  obtain ⟨hd, hn, hk⟩ := hr
  dsimp only at hd hn hi kt kf ⊢
  subst hi hn
  intro H locs cells slots ls hR hS h1 h2 hl
  exact lv_if_gt C.1 C.2.1 hd (of_decide_eq_true hk) (fun q => kt q ok l D cA sb base p e s m args below meth c C H locs cells slots ls hR hS h1 h2 hl) (fun q => kf q ok l D cA sb base p e s m args below meth c C H locs cells slots ls hR hS h1 h2 hl)
theorem am_B.icmp_gt {x y : Int32} {off : Int} (hf : am_find E.2.2.2 pc = some r) (hi : r.2.1 = .if_icmp .gt off) (kt : y < x → am_B E R Z r.2.2.2.1 lo st h rc rs) (kf : ¬ y < x → am_B E R Z r.2.2.1 lo st h rc rs) : am_B E R Z pc lo (.int y :: .int x :: st) h rc rs := by
  intro ok l D cA sb base p e s m args below meth c C
  obtain ⟨hm, rfl⟩ := am_find_ok hf
  have hr := ok.2.2 r hm
  obtain ⟨pc, i, nx, tg, kv⟩ := r
  obtain ⟨hd, hn, hk⟩ := hr
  dsimp only at hd hn hi kt kf ⊢
  subst hi hn
  intro H locs cells slots ls hR hS h1 h2 hl
  exact lv_icmp_gt C.1 C.2.1 hd (of_decide_eq_true hk) (fun q => kt q ok l D cA sb base p e s m args below meth c C H locs cells slots ls hR hS h1 h2 hl) (fun q => kf q ok l D cA sb base p e s m args below meth c C H locs cells slots ls hR hS h1 h2 hl)
theorem am_B.if_le {x : Int32} {off : Int} (hf : am_find E.2.2.2 pc = some r) (hi : r.2.1 = .ifCond .le off) (kt : x ≤ 0 → am_B E R Z r.2.2.2.1 lo st h rc rs) (kf : ¬ x ≤ 0 → am_B E R Z r.2.2.1 lo st h rc rs) : am_B E R Z pc lo (.int x :: st) h rc rs := by
  intro ok l D cA sb base p e s m args below meth c C
  obtain ⟨hm, rfl⟩ := am_find_ok hf
  have hr := ok.2.2 r hm
  obtain ⟨pc, i, nx, tg, kv⟩ := r
  obtain ⟨hd, hn, hk⟩ := hr
  dsimp only at hd hn hi kt kf ⊢
  subst hi hn
  intro H locs cells slots ls hR hS h1 h2 hl
  exact lv_if_le C.1 C.2.1 hd (of_decide_eq_true hk) (fun q => kt q ok l D cA sb base p e s m args below meth c C H locs cells slots ls hR hS h1 h2 hl) (fun q => kf q ok l D cA sb base p e s m args below meth c C H locs cells slots ls hR hS h1 h2 hl)
theorem am_B.icmp_le {x y : Int32} {off : Int} (hf : am_find E.2.2.2 pc = some r) (hi : r.2.1 = .if_icmp .le off) (kt : x ≤ y → am_B E R Z r.2.2.2.1 lo st h rc rs) (kf : ¬ x ≤ y → am_B E R Z r.2.2.1 lo st h rc rs) : am_B E R Z pc lo (.int y :: .int x :: st) h rc rs := by
  intro ok l D cA sb base p e s m args below meth c C
  obtain ⟨hm, rfl⟩ := am_find_ok hf
  have hr := ok.2.2 r hm
  obtain ⟨pc, i, nx, tg, kv⟩ := r
  obtain ⟨hd, hn, hk⟩ := hr
  dsimp only at hd hn hi kt kf ⊢
  subst hi hn
  intro H locs cells slots ls hR hS h1 h2 hl
  exact lv_icmp_le C.1 C.2.1 hd (of_decide_eq_true hk) (fun q => kt q ok l D cA sb base p e s m args below meth c C H locs cells slots ls hR hS h1 h2 hl) (fun q => kf q ok l D cA sb base p e s m args below meth c C H locs cells slots ls hR hS h1 h2 hl)
end RULES
