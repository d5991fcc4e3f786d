/-! THE PLAIN MACHINE, its steps. A row: place, instruction, next place, a branch's target, a constant. -/
abbrev am_Row : Type := Nat × Instr × Nat × Nat × Value
def am_len : Instr → Nat
  | .bipush _ => 2 | .ldc _ => 2 | .newarray _ => 2
  | .iload _ => 2 | .aload _ => 2 | .lload _ => 2 | .dload _ => 2 | .istore _ => 2 | .astore _ => 2 | .lstore _ => 2 | .dstore _ => 2
  | .sipush _ => 3 | .ldc_w _ => 3 | .ldc2_w _ => 3 | .iinc _ _ => 3 | .goto _ => 3 | .ifCond _ _ => 3 | .if_icmp _ _ => 3
  | .getfield _ => 3 | .putfield _ => 3 | .getstatic _ => 3 | .invokevirtual _ => 3 | .invokestatic _ => 3 | .invokespecial _ => 3 | .new _ => 3 | .anewarray _ => 3
  | .multianewarray _ _ => 4
  | _ => 1
def am_okK (own : String) (big : List Jvm.Cond) (r : am_Row) : Bool := match r.2.1 with
  | .iconst n => decide (r.2.2.2.2 = .int (Int32.ofInt n))
  | .bipush n => decide (r.2.2.2.2 = .int (Int8.ofInt n).toInt32)
  | .sipush n => decide (r.2.2.2.2 = .int (Int16.ofInt n).toInt32)
  | .lconst n => decide (r.2.2.2.2 = .long (Int64.ofNat (n : Nat)))
  | .dconst n => decide (r.2.2.2.2 = .double (if n = 0 then FP.dconst0 else FP.dconst1))
  | .iinc _ n => decide (r.2.2.2.2 = .int (Int32.ofInt n))
  | .ldc i => match r.2.2.2.2 with | .int v => decide (Jvm.Cond.constant own i v ∈ big) | _ => true
  | .ldc_w i => match r.2.2.2.2 with | .int v => decide (Jvm.Cond.constant own i v ∈ big) | _ => true
  | .ldc2_w i => match r.2.2.2.2 with | .long v => decide (Jvm.Cond.constantLong own i v ∈ big) | .double v => decide (Jvm.Cond.constantDouble own i v ∈ big) | _ => true
  | .goto off => decide ((r.1 : Int) + off = (r.2.2.2.1 : Int))
  | .ifCond _ off => decide ((r.1 : Int) + off = (r.2.2.2.1 : Int))
  | .if_icmp _ off => decide ((r.1 : Int) + off = (r.2.2.2.1 : Int))
  | _ => true
def am_okRow (own : String) (cc : ByteArray) (big : List Jvm.Cond) (r : am_Row) : Prop := decode cc r.1 = .ok (r.2.1, am_len r.2.1) ∧ r.2.2.1 = r.1 + am_len r.2.1 ∧ am_okK own big r = true
def am_find : List am_Row → Nat → Option am_Row
  | [], _ => none
  | r :: t, pc => bif Nat.beq r.1 pc then some r else am_find t pc
theorem am_find_ok : ∀ {tb : List am_Row} {pc : Nat} {r : am_Row}, am_find tb pc = some r → r ∈ tb ∧ r.1 = pc
  | [], _, _, h => nomatch h
  | r0 :: t, pc, r, h => by
    unfold am_find at h
    cases e : Nat.beq r0.1 pc <;> rw [e] at h <;> simp only [cond_true, cond_false] at h
    · have := am_find_ok h
      exact ⟨List.mem_cons_of_mem _ this.1, this.2⟩
    · cases h
      exact ⟨List.mem_cons_self, Nat.eq_of_beq_eq_true e⟩
def am_isk : Nat → Value → Bool
  | 0, .int _ => true
  | 1, .ref _ => true
  | 1, .null => true
  | 2, .long _ => true
  | 3, .double _ => true
  | _, _ => false
def am_ld (kd : Nat) (lo : am_L) (i : Nat) : Option Value := match lo[i]? with
  | some (some v) => bif am_isk kd v then some v else none
  | _ => none
theorem am_ld_ok {kd : Nat} {lo : am_L} {i : Nat} {v : Value} (h : am_ld kd lo i = some v) : lo[i]? = some (some v) ∧ am_isk kd v = true := by
  unfold am_ld at h
  split at h
  · rename_i w hw
    cases e : am_isk kd w <;> rw [e] at h <;> simp only [cond_true, cond_false] at h
    · cases h
    · cases h
      exact ⟨hw, e⟩
  · cases h
theorem am_isk0 {v : Value} (h : am_isk 0 v = true) : ∃ x, v = .int x := by cases v <;> first | exact ⟨_, rfl⟩ | exact absurd h (by simp [am_isk])
theorem am_isk1 {v : Value} (h : am_isk 1 v = true) : v = .null ∨ ∃ x, v = .ref x := by cases v <;> first | exact Or.inl rfl | exact Or.inr ⟨_, rfl⟩ | exact absurd h (by simp [am_isk])
theorem am_isk2 {v : Value} (h : am_isk 2 v = true) : ∃ x, v = .long x := by cases v <;> first | exact ⟨_, rfl⟩ | exact absurd h (by simp [am_isk])
theorem am_isk3 {v : Value} (h : am_isk 3 v = true) : ∃ x, v = .double x := by cases v <;> first | exact ⟨_, rfl⟩ | exact absurd h (by simp [am_isk])
/-- instructions that push one value -/
def am_push (r : am_Row) (lo : am_L) : Option Value := match r.2.1 with
  | .iconst _ => some r.2.2.2.2
  | .bipush _ => some r.2.2.2.2
  | .sipush _ => some r.2.2.2.2
  | .lconst _ => some r.2.2.2.2
  | .dconst _ => some r.2.2.2.2
  | .ldc _ => bif am_isk 0 r.2.2.2.2 then some r.2.2.2.2 else none
  | .ldc_w _ => bif am_isk 0 r.2.2.2.2 then some r.2.2.2.2 else none
  | .ldc2_w _ => bif am_isk 2 r.2.2.2.2 || am_isk 3 r.2.2.2.2 then some r.2.2.2.2 else none
  | .iload_n k => am_ld 0 lo k
  | .iload k => am_ld 0 lo k
  | .aload_n k => am_ld 1 lo k
  | .aload k => am_ld 1 lo k
  | .lload_n k => am_ld 2 lo k
  | .lload k => am_ld 2 lo k
  | .dload_n k => am_ld 3 lo k
  | .dload k => am_ld 3 lo k
  | _ => none
/-- of two values that lie on top (the upper first), one -/
def am_bin : Instr → Value → Value → Option Value
  | .iadd, .int y, .int x => some (.int (x + y))
  | .isub, .int y, .int x => some (.int (x - y))
  | .imul, .int y, .int x => some (.int (x * y))
  | .iand, .int y, .int x => some (.int (x &&& y))
  | .ior, .int y, .int x => some (.int (x ||| y))
  | .ixor, .int y, .int x => some (.int (x ^^^ y))
  | .ishl, .int y, .int x => some (.int (x <<< (y &&& 31)))
  | .ishr, .int y, .int x => some (.int (x >>> (y &&& 31)))
  | .iushr, .int y, .int x => some (.int (x.toUInt32 >>> (y.toUInt32 &&& Int32.toUInt32 31)).toInt32)
  | .ladd, .long y, .long x => some (.long (x + y))
  | .lmul, .long y, .long x => some (.long (x * y))
  | .lcmp, .long y, .long x => some (.int (lg_cmp x y))
  | .dcmp op, .double y, .double x => some (.int (Op.cmpValue (FP.dcmp x y) op))
  | .idiv, .int y, .int x => if y = 0 then none else some (.int (x / y))
  | .irem, .int y, .int x => if y = 0 then none else some (.int (x - x / y * y))
  | _, _, _ => none
def am_un : Instr → Value → Option Value
  | .i2l, .int x => some (.long x.toInt64)
  | .l2i, .long x => some (.int x.toInt32)
  | .i2d, .int x => some (.double (FP.i2d x))
  | .ineg, .int x => some (.int (-x))
  | _, _ => none
/-- the stack by itself -/
def am_stk : Instr → List Value → Option (List Value)
  | .dup, .int x :: t => some (.int x :: .int x :: t)
  | .dup, .ref x :: t => some (.ref x :: .ref x :: t)
  | .dup, .null :: t => some (.null :: .null :: t)
  | .pop, .int _ :: t => some t
  | .pop, .ref _ :: t => some t
  | .pop, .null :: t => some t
  | .dup2, .int x :: .int y :: t => some (.int x :: .int y :: .int x :: .int y :: t)
  | .dup2, .int x :: .ref y :: t => some (.int x :: .ref y :: .int x :: .ref y :: t)
  | i, y :: x :: t => match am_bin i y x with
    | some v => some (v :: t)
    | none => match am_un i y with
      | some v => some (v :: x :: t)
      | none => none
  | i, y :: t => match am_un i y with
    | some v => some (v :: t)
    | none => none
  | _, _ => none
def am_sto : Instr → List Value → am_L → Option (am_L × List Value)
  | .istore_n k, .int x :: t, lo => (am_st1 lo k (.int x)).map (·, t)
  | .istore k, .int x :: t, lo => (am_st1 lo k (.int x)).map (·, t)
  | .astore_n k, .ref x :: t, lo => (am_st1 lo k (.ref x)).map (·, t)
  | .astore k, .ref x :: t, lo => (am_st1 lo k (.ref x)).map (·, t)
  | .lstore_n k, .long x :: t, lo => (am_st2 lo k (.long x)).map (·, t)
  | .lstore k, .long x :: t, lo => (am_st2 lo k (.long x)).map (·, t)
  | .dstore_n k, .double x :: t, lo => (am_st2 lo k (.double x)).map (·, t)
  | .dstore k, .double x :: t, lo => (am_st2 lo k (.double x)).map (·, t)
  | _, _, _ => none
section AMW
variable {D : va_G} {cl : List vw_C} {cA : Nat → ClassId} {sb base : Nat} {p : Program} {l : Launch} {e : Env} {R : Room} {s : State} {m : MethodId} {args : Array Value} {below : List Frame} {meth : Method} {c : Code} {nL : Nat} {Q : State → Prop}
/-- from this frame and these cells the machine comes to a state with Q; rc cells of rs slots may still be made -/
def am_W (D : va_G) (cl : List vw_C) (cA : Nat → ClassId) (sb base : Nat) (p : Program) (l : Launch) (e : Env) (R : Room) (s : State) (m : MethodId) (args : Array Value) (below : List Frame) (meth : Method) (c : Code) (nL : Nat) (Q : State → Prop) (pc : Nat) (lo : am_L) (st : List Value) (h : am_H) (rc rs : Nat) : Prop :=
  ∀ (H : Heap) (locs : List Loc) (cells slots : Nat) (ls : Array Slot), am_R D cl cA sb base s h H → va_S (fun q => base ≤ q) s.heap H locs → cells + rc ≤ R.cells → slots + rs ≤ R.slots → am_LR (am_cv sb base) ls nL lo →
    W p l e R s m args below meth c H locs cells slots Q (F0 m pc ls (st.map (am_cv sb base)))
variable {cc : ByteArray} {own : String} {big : List Jvm.Cond} {r : am_Row} {lo lo' : am_L} {st st' : List Value} {h : am_H} {rc rs : Nat} {v : Value}
theorem am_push_ok (hx : p.tables.exec = Jvm.exec) (hb : c.code = cc) (hown : s.vm.findClass own = some m.cls) (hts : ∀ w ∈ big, w.before args s = true) (hr : am_okRow own cc big r) (hp : am_push r lo = some v)
    (k : am_W D cl cA sb base p l e R s m args below meth c nL Q r.2.2.1 lo (v :: st) h rc rs) : am_W D cl cA sb base p l e R s m args below meth c nL Q r.1 lo st h rc rs := by
  obtain ⟨pc, i, nx, tg, kv⟩ := r
  obtain ⟨hd, hn, hk⟩ := hr
  dsimp only at hd hn hp k ⊢
  subst hn
  intro H locs cells slots ls hR hS h1 h2 hl
  have K := k H locs cells slots ls hR hS h1 h2 hl
  clear k
  unfold am_push at hp
  dsimp only at hp
  split at hp
  all_goals first
    | (cases hp; done)
    | skip
  · cases hp
    have hk := of_decide_eq_true hk
    dsimp only at hk; subst hk
    exact lv_iconst hx hb hd rfl K
  · cases hp
    have hk := of_decide_eq_true hk
    dsimp only at hk; subst hk
    exact lv_bipush hx hb hd rfl K
  · cases hp
    have hk := of_decide_eq_true hk
    dsimp only at hk; subst hk
    exact lv_sipush hx hb hd rfl K
  · cases hp
    have hk := of_decide_eq_true hk
    dsimp only at hk; subst hk
    exact lv_lconst hx hb hd rfl K
  · rename_i n
    cases hp
    have hk := of_decide_eq_true hk
    dsimp only at hk; subst hk
    by_cases e : n = 0
    · subst e
      exact lv_dconst0 hx hb hd K
    · have e1 : n = 1 := by omega
      subst e1
      exact lv_dconst1 hx hb hd K
  · cases e : am_isk 0 kv <;> rw [e] at hp <;> simp only [cond_true, cond_false] at hp
    · cases hp
    · cases hp
      obtain ⟨x, rfl⟩ := am_isk0 e
      exact lv_ldc hx hb hown (hts _ (of_decide_eq_true hk)) hd K
  · cases e : am_isk 0 kv <;> rw [e] at hp <;> simp only [cond_true, cond_false] at hp
    · cases hp
    · cases hp
      obtain ⟨x, rfl⟩ := am_isk0 e
      exact lv_ldcw hx hb hown (hts _ (of_decide_eq_true hk)) hd K
  · cases e : (am_isk 2 kv || am_isk 3 kv) <;> rw [e] at hp <;> simp only [cond_true, cond_false] at hp
    · cases hp
    · cases hp
      rcases Bool.or_eq_true_iff.mp e with e | e
      · obtain ⟨x, rfl⟩ := am_isk2 e
        exact lv_ldc2 hx hb hown (hts _ (of_decide_eq_true hk)) hd K
      · obtain ⟨x, rfl⟩ := am_isk3 e
        exact lv_ldc2d hx hb hown (hts _ (of_decide_eq_true hk)) hd K
  · obtain ⟨e1, e2⟩ := am_ld_ok hp
    obtain ⟨x, rfl⟩ := am_isk0 e2
    exact lv_iload_n hx hb hd rfl (hl.at e1) K
  · obtain ⟨e1, e2⟩ := am_ld_ok hp
    obtain ⟨x, rfl⟩ := am_isk0 e2
    exact lv_iload hx hb hd (hl.at e1) K
  · obtain ⟨e1, e2⟩ := am_ld_ok hp
    rcases am_isk1 e2 with rfl | ⟨x, rfl⟩
    · exact lv_aload_nN hx hb hd rfl (hl.at e1) K
    · exact lv_aload_n hx hb hd rfl (hl.at e1) K
  · obtain ⟨e1, e2⟩ := am_ld_ok hp
    rcases am_isk1 e2 with rfl | ⟨x, rfl⟩
    · exact lv_aloadN hx hb hd (hl.at e1) K
    · exact lv_aload hx hb hd (hl.at e1) K
  · obtain ⟨e1, e2⟩ := am_ld_ok hp
    obtain ⟨x, rfl⟩ := am_isk2 e2
    exact lv_lload_n hx hb hd rfl (hl.at e1) K
  · obtain ⟨e1, e2⟩ := am_ld_ok hp
    obtain ⟨x, rfl⟩ := am_isk2 e2
    exact lv_lload hx hb hd (hl.at e1) K
  · obtain ⟨e1, e2⟩ := am_ld_ok hp
    obtain ⟨x, rfl⟩ := am_isk3 e2
    exact lv_dload_n hx hb hd rfl (hl.at e1) K
  · obtain ⟨e1, e2⟩ := am_ld_ok hp
    obtain ⟨x, rfl⟩ := am_isk3 e2
    exact lv_dload hx hb hd (hl.at e1) K
theorem am_bin_ok (hx : p.tables.exec = Jvm.exec) (hb : c.code = cc) (hr : am_okRow own cc big r) {y x : Value} (hp : am_bin r.2.1 y x = some v)
    (k : am_W D cl cA sb base p l e R s m args below meth c nL Q r.2.2.1 lo (v :: st) h rc rs) : am_W D cl cA sb base p l e R s m args below meth c nL Q r.1 lo (y :: x :: st) h rc rs := by
  obtain ⟨pc, i, nx, tg, kv⟩ := r
  obtain ⟨hd, hn, hk⟩ := hr
  dsimp only at hd hn hp k ⊢
  subst hn
  intro H locs cells slots ls hR hS h1 h2 hl
  have K := k H locs cells slots ls hR hS h1 h2 hl
  clear k
  unfold am_bin at hp
  split at hp
  · cases hp; exact lv_iadd hx hb hd K
  · cases hp; exact lv_isub hx hb hd K
  · cases hp; exact lv_imul hx hb hd K
  · cases hp; exact lv_iand hx hb hd K
  · cases hp; exact lv_ior hx hb hd K
  · cases hp; exact lv_ixor hx hb hd K
  · cases hp; exact lv_ishl hx hb hd K
  · cases hp; exact lv_ishr hx hb hd K
  · cases hp; exact lv_iushr hx hb hd rfl K
  · cases hp; exact lv_ladd hx hb hd K
  · cases hp; exact lv_lmul hx hb hd K
  · cases hp; exact W.lcmp hx hb hd K
  · cases hp; exact lv_dcmp hx hb hd K
  · split at hp
    · cases hp
    · rename_i hne
      cases hp
      exact lv_idiv hx hb hd hne K
  · split at hp
    · cases hp
    · rename_i hne
      cases hp
      exact lv_irem hx hb hd hne K
  · cases hp
theorem am_un_ok (hx : p.tables.exec = Jvm.exec) (hb : c.code = cc) (hr : am_okRow own cc big r) {y : Value} (hp : am_un r.2.1 y = some v)
    (k : am_W D cl cA sb base p l e R s m args below meth c nL Q r.2.2.1 lo (v :: st) h rc rs) : am_W D cl cA sb base p l e R s m args below meth c nL Q r.1 lo (y :: st) h rc rs := by
  obtain ⟨pc, i, nx, tg, kv⟩ := r
  obtain ⟨hd, hn, hk⟩ := hr
  dsimp only at hd hn hp k ⊢
  subst hn
  intro H locs cells slots ls hR hS h1 h2 hl
  have K := k H locs cells slots ls hR hS h1 h2 hl
  clear k
  unfold am_un at hp
  split at hp
  · cases hp; exact lv_i2l hx hb hd rfl K
  · cases hp; exact lv_l2i hx hb hd rfl K
  · cases hp; exact lv_i2d hx hb hd K
  · cases hp; exact lv_ineg hx hb hd K
  · cases hp
theorem am_stk_ok (hx : p.tables.exec = Jvm.exec) (hb : c.code = cc) (hr : am_okRow own cc big r) (hp : am_stk r.2.1 st = some st')
    (k : am_W D cl cA sb base p l e R s m args below meth c nL Q r.2.2.1 lo st' h rc rs) : am_W D cl cA sb base p l e R s m args below meth c nL Q r.1 lo st h rc rs := by
  have hr0 := hr
  obtain ⟨pc, i, nx, tg, kv⟩ := r
  obtain ⟨hd, hn, hk⟩ := hr
  dsimp only at hd hn hp
  unfold am_stk at hp
  split at hp
  · cases hp
    intro H locs cells slots ls hR hS h1 h2 hl
    have K := k H locs cells slots ls hR hS h1 h2 hl
    dsimp only at K ⊢
    subst hn
    exact lv_dup hx hb hd rfl K
  · cases hp
    intro H locs cells slots ls hR hS h1 h2 hl
    have K := k H locs cells slots ls hR hS h1 h2 hl
    dsimp only at K ⊢
    subst hn
    exact lv_dup hx hb hd rfl K
  · cases hp
    intro H locs cells slots ls hR hS h1 h2 hl
    have K := k H locs cells slots ls hR hS h1 h2 hl
    dsimp only at K ⊢
    subst hn
    exact lv_dup hx hb hd rfl K
  · cases hp
    intro H locs cells slots ls hR hS h1 h2 hl
    have K := k H locs cells slots ls hR hS h1 h2 hl
    dsimp only at K ⊢
    subst hn
    exact lv_pop hx hb hd rfl K
  · cases hp
    intro H locs cells slots ls hR hS h1 h2 hl
    have K := k H locs cells slots ls hR hS h1 h2 hl
    dsimp only at K ⊢
    subst hn
    exact lv_pop hx hb hd rfl K
  · cases hp
    intro H locs cells slots ls hR hS h1 h2 hl
    have K := k H locs cells slots ls hR hS h1 h2 hl
    dsimp only at K ⊢
    subst hn
    exact lv_pop hx hb hd rfl K
  · cases hp
    intro H locs cells slots ls hR hS h1 h2 hl
    have K := k H locs cells slots ls hR hS h1 h2 hl
    dsimp only at K ⊢
    subst hn
    exact lv_dup2_11 hx hb hd rfl rfl K
  · cases hp
    intro H locs cells slots ls hR hS h1 h2 hl
    have K := k H locs cells slots ls hR hS h1 h2 hl
    dsimp only at K ⊢
    subst hn
    exact lv_dup2_11 hx hb hd rfl rfl K
  · split at hp
    · rename_i hv
      cases hp
      exact am_bin_ok hx hb hr0 hv k
    · split at hp
      · rename_i hv
        cases hp
        exact am_un_ok hx hb hr0 hv k
      · cases hp
  · split at hp
    · rename_i hv
      cases hp
      exact am_un_ok hx hb hr0 hv k
    · cases hp
  · cases hp
theorem am_sto_ok (hx : p.tables.exec = Jvm.exec) (hb : c.code = cc) (hr : am_okRow own cc big r) (hp : am_sto r.2.1 st lo = some (lo', st'))
    (k : am_W D cl cA sb base p l e R s m args below meth c nL Q r.2.2.1 lo' st' h rc rs) : am_W D cl cA sb base p l e R s m args below meth c nL Q r.1 lo st h rc rs := by
  obtain ⟨pc, i, nx, tg, kv⟩ := r
  obtain ⟨hd, hn, hk⟩ := hr
  dsimp only at hd hn hp k ⊢
  subst hn
  intro H locs cells slots ls hR hS h1 h2 hl
  have K := fun ls hl => k H locs cells slots ls hR hS h1 h2 hl
  clear k
  have fin : ∀ {ls' : Array Slot} {L : List (Nat × Value)} {lo1 : am_L}, lo1.length ≤ nL → (∀ q ∈ am_lp (am_cv sb base) 0 lo1, q ∈ L) → lv_has ls' nL L → am_LR (am_cv sb base) ls' nL lo1 :=
    fun a b h3 => ⟨a, h3.1, h3.2.1, fun q hq => h3.2.2 q (b q hq)⟩
  unfold am_sto at hp
  split at hp
  all_goals first
    | (cases hp; done)
    | (obtain ⟨lo1, e1, e2⟩ := Option.map_eq_some_iff.mp hp
       cases e2
       first
       | (obtain ⟨a1, a2, a3⟩ := am_st1_ok (am_cv_cat sb base) hl e1 rfl
          first
          | exact lv_istore_n hx hb hd rfl hl.2 a1 rfl (fun ls' h' => K ls' (fin a2 a3 h'))
          | exact lv_istore hx hb hd hl.2 a1 rfl (fun ls' h' => K ls' (fin a2 a3 h'))
          | exact lv_astore_n hx hb hd rfl hl.2 a1 rfl (fun ls' h' => K ls' (fin a2 a3 h'))
          | exact lv_astore hx hb hd hl.2 a1 rfl (fun ls' h' => K ls' (fin a2 a3 h')))
       | (obtain ⟨a1, a2, a3⟩ := am_st2_ok (am_cv_cat sb base) hl e1
          first
          | exact lv_lstore_n hx hb hd rfl hl.2 a1 rfl (fun ls' h' => K ls' (fin a2 a3 h'))
          | exact lv_lstore hx hb hd hl.2 a1 rfl (fun ls' h' => K ls' (fin a2 a3 h'))
          | exact lv_dstore_n hx hb hd rfl hl.2 a1 rfl (fun ls' h' => K ls' (fin a2 a3 h'))
          | exact lv_dstore hx hb hd hl.2 a1 rfl (fun ls' h' => K ls' (fin a2 a3 h'))))
theorem am_goto_ok (hx : p.tables.exec = Jvm.exec) (hb : c.code = cc) (hr : am_okRow own cc big r) {off : Int} (hi : r.2.1 = .goto off)
    (k : am_W D cl cA sb base p l e R s m args below meth c nL Q r.2.2.2.1 lo st h rc rs) : am_W D cl cA sb base p l e R s m args below meth c nL Q r.1 lo st h rc rs := by
  obtain ⟨pc, i, nx, tg, kv⟩ := r
  obtain ⟨hd, hn, hk⟩ := hr
  dsimp only at hd hn hi k ⊢
  subst hi
  intro H locs cells slots ls hR hS h1 h2 hl
  exact lv_goto hx hb hd (of_decide_eq_true hk) (k H locs cells slots ls hR hS h1 h2 hl)
theorem am_iinc_ok (hx : p.tables.exec = Jvm.exec) (hb : c.code = cc) (hr : am_okRow own cc big r) {j : Nat} {n : Int} {x y : Int32} (hi : r.2.1 = .iinc j n) (hy : r.2.2.2.2 = .int y) (hj : lo[j]? = some (some (.int x))) (hs : am_st1 lo j (.int (x + y)) = some lo')
    (k : am_W D cl cA sb base p l e R s m args below meth c nL Q r.2.2.1 lo' st h rc rs) : am_W D cl cA sb base p l e R s m args below meth c nL Q r.1 lo st h rc rs := by
  obtain ⟨pc, i, nx, tg, kv⟩ := r
  obtain ⟨hd, hn, hk⟩ := hr
  dsimp only at hd hn hi hy k ⊢
  subst hi
  subst hn
  subst hy
  have hk := of_decide_eq_true hk
  dsimp only at hk
  cases hk
  intro H locs cells slots ls hR hS h1 h2 hl
  obtain ⟨a1, a2, a3⟩ := am_st1_ok (am_cv_cat sb base) hl hs rfl
  have hm : (j, Value.int x) ∈ am_lp (am_cv sb base) 0 lo := am_lp_mem.mpr ⟨Nat.zero_le _, .int x, hj, rfl⟩
  obtain ⟨q, hq⟩ := List.getElem?_of_mem hm
  exact lv_iinc hx hb hd hl.2 hq rfl a1 rfl (fun ls' h' => k H locs cells slots ls' hR hS h1 h2 ⟨a2, h'.1, h'.2.1, fun q hq => h'.2.2 q (a3 q hq)⟩)
end AMW
