section
/-! THE PLAIN MACHINE, its pictures: cells by their number (0 the script, then those that the law makes, in the order in which they come), values with cells' numbers as references. -/
abbrev am_L : Type := List (Option Value)
abbrev am_C : Type := (Nat × vp_A) ⊕ (Nat × List Value)
abbrev am_H : Type := List am_C
/-- where cell k lies: the script at sb, the others from base on -/
def am_ad (sb base : Nat) : Nat → Nat
  | 0 => sb
  | k + 1 => base + k
def am_cv (sb base : Nat) : Value → Value
  | .ref k => .ref (am_ad sb base k)
  | v => v
def am_cx (sb base : Nat) : vp_A → vp_A
  | (n, .inr (.inr (.inr (.inr f)))) => (n, .inr (.inr (.inr (.inr (fun i => (f i).map (am_ad sb base))))))
  | x => x
theorem am_cv_cat (sb base : Nat) (v : Value) : (am_cv sb base v).category = v.category := by cases v <;> rfl
theorem am_ad_inj {sb base : Nat} (h : sb < base) {i j : Nat} (e : am_ad sb base i = am_ad sb base j) : i = j := by
  cases i <;> cases j <;> simp only [am_ad] at e <;> omega
theorem am_ad_ge {sb base k : Nat} : base ≤ am_ad sb base (k + 1) := Nat.le_add_right _ _
/-- what stands at an address -/
def am_at (D : va_G) (cl : List vw_C) (cA : Nat → ClassId) (sb base : Nat) (U : State) (H : Heap) (a : Nat) : am_C → Prop
  | .inl q => (q.1 = 99 → ∃ scr : Cell, H[a]? = some scr ∧ U.isArrayOf scr .int ∧ scr.vm ≠ .unknown ∧ scr.slots.size = q.2.1 ∧ ∃ xs : Nat → Int32, q.2.2 = .inl xs ∧ ∀ j : Nat, j < q.2.1 → scr.slots[j]? = some (.int (xs j))) ∧
    (q.1 ≠ 99 → H[a]? = some (vp_cell (cA q.1) (am_cx sb base q.2)))
  | .inr q => ∃ r : vw_C, cl[q.1]? = some r ∧ t_OB a (D.1 q.1) r.2.2 (D.2 q.1) H (vp_V (q.2.map (am_cv sb base)))
/-- the heap H holds the cells h -/
def am_R (D : va_G) (cl : List vw_C) (cA : Nat → ClassId) (sb base : Nat) (U : State) (h : am_H) (H : Heap) : Prop :=
  sb < base ∧ H.size + 1 = base + h.length ∧ (∃ x : vp_A, h[0]? = some (.inl (99, x))) ∧ ∀ (k : Nat) (c : am_C), h[k]? = some c → am_at D cl cA sb base U H (am_ad sb base k) c
/-- the classes and the kinds of arrays, as the tables have them -/
def am_K (D : va_G) (cl : List vw_C) (cA : Nat → ClassId) (tys : List FieldType) (U : State) : Prop :=
  (∀ (c : Nat) (q : vw_C), cl[c]? = some q → u_Kn U q.1 q.2.1 q.2.2 (D.1 c) (D.2 c)) ∧ ∀ (t : Nat) (ty : FieldType), tys[t]? = some ty → ArrOfT U (cA t) ty ∧ va_RA U (cA t) ty
theorem am_K.moved {D : va_G} {cl : List vw_C} {cA : Nat → ClassId} {tys : List FieldType} {u U : State} (hvm : u.vm.Alike U.vm) (h : am_K D cl cA tys u) : am_K D cl cA tys U :=
  ⟨fun c q hq => u_Kn_moved hvm (h.1 c q hq), fun t ty ht => ⟨arrOfT_moved hvm (h.2 t ty ht).1, (h.2 t ty ht).2.moved hvm⟩⟩
section AMR
variable {D : va_G} {cl : List vw_C} {cA : Nat → ClassId} {sb base : Nat} {u U : State} {h : am_H} {H H1 : Heap}
theorem am_at.kept {a : Nat} {c : am_C} (hq : H1[a]? = H[a]?) (h : am_at D cl cA sb base U H a c) : am_at D cl cA sb base U H1 a c := by
  cases c with
  | inl q =>
    refine ⟨fun ht => ?_, fun ht => hq.trans (h.2 ht)⟩
    obtain ⟨scr, h1, h2⟩ := h.1 ht
    exact ⟨scr, hq.trans h1, h2⟩
  | inr q =>
    obtain ⟨r, h1, h2⟩ := h
    exact ⟨r, h1, h2.kept hq⟩
theorem am_at.moved {a : Nat} {c : am_C} (hvm : u.vm.Alike U.vm) (h : am_at D cl cA sb base u H a c) : am_at D cl cA sb base U H a c := by
  cases c with
  | inl q =>
    refine ⟨fun ht => ?_, h.2⟩
    obtain ⟨scr, h1, h2, h3⟩ := h.1 ht
    exact ⟨scr, h1, State.isArrayOf_alike hvm h2, h3⟩
  | inr q => exact h
theorem am_R.moved (hvm : u.vm.Alike U.vm) (R : am_R D cl cA sb base u h H) : am_R D cl cA sb base U h H :=
  ⟨R.1, R.2.1, R.2.2.1, fun k c hk => (R.2.2.2 k c hk).moved hvm⟩
theorem am_R.lt (R : am_R D cl cA sb base U h H) {k : Nat} {c : am_C} (hk : h[k]? = some c) : am_ad sb base k < H.size := by
  have h1 := R.2.2.2 k c hk
  cases c with
  | inl q =>
    by_cases e : q.1 = 99
    · obtain ⟨scr, h2, -⟩ := h1.1 e
      exact (Array.getElem?_eq_some_iff.mp h2).1
    · exact (Array.getElem?_eq_some_iff.mp (h1.2 e)).1
  | inr q =>
    obtain ⟨r, -, cell, h2, -⟩ := h1
    exact (Array.getElem?_eq_some_iff.mp h2).1
theorem am_R.pos (R : am_R D cl cA sb base U h H) : 0 < h.length := by
  obtain ⟨x, hx⟩ := R.2.2.1
  exact (List.getElem?_eq_some_iff.mp hx).1
/-- one cell anew -/
theorem am_R.set (R : am_R D cl cA sb base U h H) {k : Nat} {c c1 : am_C} (hk : h[k]? = some c) (hz : H1.size = H.size) (ho : ∀ q, q ≠ am_ad sb base k → H1[q]? = H[q]?) (hk0 : k ≠ 0) (hc : am_at D cl cA sb base U H1 (am_ad sb base k) c1) : am_R D cl cA sb base U (h.set k c1) H1 := by
  refine ⟨R.1, by rw [hz, List.length_set]; exact R.2.1, ?_, fun j d hj => ?_⟩
  · obtain ⟨x, hx⟩ := R.2.2.1
    exact ⟨x, by rw [List.getElem?_set_ne hk0]; exact hx⟩
  · by_cases e : k = j
    · subst e
      rw [List.getElem?_set_self (List.getElem?_eq_some_iff.mp hk).1] at hj
      cases hj
      exact hc
    · rw [List.getElem?_set_ne e] at hj
      exact (R.2.2.2 j d hj).kept (ho _ fun q => e (am_ad_inj R.1 q).symm)
/-- a new cell -/
theorem am_R.push (R : am_R D cl cA sb base U h H) {c1 : am_C} (hz : H1.size = H.size + 1) (ho : ∀ q, q < H.size → H1[q]? = H[q]?) (hc : am_at D cl cA sb base U H1 H.size c1) : am_R D cl cA sb base U (h ++ [c1]) H1 := by
  have hp := R.pos
  refine ⟨R.1, by rw [hz, List.length_append, List.length_singleton, R.2.1]; omega, ?_, fun j d hj => ?_⟩
  · obtain ⟨x, hx⟩ := R.2.2.1
    exact ⟨x, by rw [List.getElem?_append_left hp]; exact hx⟩
  · by_cases e : j < h.length
    · rw [List.getElem?_append_left e] at hj
      exact (R.2.2.2 j d hj).kept (ho _ (R.lt hj))
    · rw [List.getElem?_append_right (by omega)] at hj
      have hz : j - h.length < 1 := (List.getElem?_eq_some_iff.mp hj).1
      rw [show j - h.length = 0 by omega] at hj
      cases hj
      have h2 := R.2.1
      have : am_ad sb base j = H.size := by
        obtain ⟨i, rfl⟩ : ∃ i, j = i + 1 := ⟨j - 1, by omega⟩
        show base + i = H.size
        omega
      rw [this]
      exact hc
theorem am_R.next (R : am_R D cl cA sb base U h H) : am_ad sb base h.length = H.size := by
  have hp := R.pos
  have h2 := R.2.1
  obtain ⟨i, hi⟩ : ∃ i, h.length = i + 1 := ⟨h.length - 1, by omega⟩
  rw [hi]
  show base + i = H.size
  omega
end AMR
/-! locals -/
def am_lp (g : Value → Value) : Nat → am_L → List (Nat × Value)
  | _, [] => []
  | k, none :: t => am_lp g (k + 1) t
  | k, some v :: t => (k, g v) :: am_lp g (k + 1) t
theorem am_lp_mem {g : Value → Value} : ∀ {lo : am_L} {k : Nat} {q : Nat × Value}, q ∈ am_lp g k lo ↔ k ≤ q.1 ∧ ∃ v, lo[q.1 - k]? = some (some v) ∧ q.2 = g v
  | [], k, q => by simp [am_lp]
  | none :: t, k, q => by
    rw [am_lp, am_lp_mem]
    constructor
    · rintro ⟨h1, v, h2, h3⟩
      refine ⟨by omega, v, ?_, h3⟩
      rw [show q.1 - k = (q.1 - (k + 1)) + 1 by omega, List.getElem?_cons_succ]
      exact h2
    · rintro ⟨h1, v, h2, h3⟩
      by_cases e : q.1 = k
      · rw [show q.1 - k = 0 by omega] at h2
        cases h2
      · rw [show q.1 - k = (q.1 - (k + 1)) + 1 by omega, List.getElem?_cons_succ] at h2
        exact ⟨by omega, v, h2, h3⟩
  | some w :: t, k, q => by
    rw [am_lp, List.mem_cons, am_lp_mem]
    constructor
    · rintro (rfl | ⟨h1, v, h2, h3⟩)
      · exact ⟨Nat.le_refl _, w, by simp, rfl⟩
      · refine ⟨by omega, v, ?_, h3⟩
        rw [show q.1 - k = (q.1 - (k + 1)) + 1 by omega, List.getElem?_cons_succ]
        exact h2
    · rintro ⟨h1, v, h2, h3⟩
      by_cases e : q.1 = k
      · rw [show q.1 - k = 0 by omega] at h2
        cases h2
        left
        exact Prod.ext e h3
      · right
        rw [show q.1 - k = (q.1 - (k + 1)) + 1 by omega, List.getElem?_cons_succ] at h2
        exact ⟨by omega, v, h2, h3⟩
/-- the frame's locals hold lo -/
def am_LR (g : Value → Value) (ls : Array Slot) (nL : Nat) (lo : am_L) : Prop := lo.length ≤ nL ∧ lv_has ls nL (am_lp g 0 lo)
theorem am_LR.at {g : Value → Value} {ls : Array Slot} {nL : Nat} {lo : am_L} (h : am_LR g ls nL lo) {i : Nat} {v : Value} (hi : lo[i]? = some (some v)) : ls[i]? = some (.val (g v)) :=
  h.2.2.2 (i, g v) (am_lp_mem.mpr ⟨Nat.zero_le _, v, hi, rfl⟩)
def am_c2 (lo : am_L) : Nat → Bool
  | 0 => false
  | j + 1 => match lo[j]? with
    | some (some (.long _)) => true
    | some (some (.double _)) => true
    | _ => false
theorem am_c2_f {lo : am_L} {i j : Nat} {v : Value} (h : am_c2 lo i = false) (hj : lo[j]? = some (some v)) (e : j + 1 = i) : v.category = 1 := by
  subst e
  cases v <;> first | rfl | (simp [am_c2, hj] at h)
def am_st1 (lo : am_L) (i : Nat) (v : Value) : Option am_L := match lo[i]? with
  | none => none
  | some _ => bif am_c2 lo i then none else some (lo.set i (some v))
def am_st2 (lo : am_L) (i : Nat) (v : Value) : Option am_L := match lo[i + 1]? with
  | none => none
  | some _ => bif am_c2 lo i then none else some ((lo.set i (some v)).set (i + 1) none)
theorem am_st1_ok {g : Value → Value} (hg : ∀ v, (g v).category = v.category) {ls : Array Slot} {nL : Nat} {lo lo' : am_L} {i : Nat} {v : Value} (h : am_LR g ls nL lo) (hs : am_st1 lo i v = some lo') (hc : v.category = 1) :
    i < nL ∧ lo'.length ≤ nL ∧ ∀ q ∈ am_lp g 0 lo', q ∈ (i, g v) :: (am_lp g 0 lo).filter (fun q => !(q.1 == i) && !(q.1 + 1 == i && q.2.category == 2)) := by
  unfold am_st1 at hs
  split at hs
  · cases hs
  · rename_i x hx
    have hlt := (List.getElem?_eq_some_iff.mp hx).1
    cases hb : am_c2 lo i <;> rw [hb] at hs <;> simp only [cond_true, cond_false] at hs
    · cases hs
      refine ⟨Nat.lt_of_lt_of_le hlt h.1, by rw [List.length_set]; exact h.1, fun q hq => ?_⟩
      obtain ⟨-, w, h2, h3⟩ := am_lp_mem.mp hq
      rw [Nat.sub_zero] at h2
      by_cases e : i = q.1
      · rw [← e, List.getElem?_set_self hlt] at h2
        cases h2
        exact List.mem_cons.mpr (Or.inl (Prod.ext e.symm h3))
      · rw [List.getElem?_set_ne e] at h2
        refine List.mem_cons_of_mem _ (List.mem_filter.mpr ⟨am_lp_mem.mpr ⟨Nat.zero_le _, w, h2, h3⟩, ?_⟩)
        have h4 : (q.1 == i) = false := by simp; omega
        rw [h4]
        by_cases e2 : q.1 + 1 = i
        · have := am_c2_f hb h2 e2
          rw [h3, hg, this]; simp
        · simp [e2]
    · cases hs
theorem am_st2_ok {g : Value → Value} (hg : ∀ v, (g v).category = v.category) {ls : Array Slot} {nL : Nat} {lo lo' : am_L} {i : Nat} {v : Value} (h : am_LR g ls nL lo) (hs : am_st2 lo i v = some lo') :
    i + 1 < nL ∧ lo'.length ≤ nL ∧ ∀ q ∈ am_lp g 0 lo', q ∈ (i, g v) :: (am_lp g 0 lo).filter (fun q => !(q.1 == i) && (!(q.1 == i + 1) && !(q.1 + 1 == i && q.2.category == 2))) := by
  unfold am_st2 at hs
  split at hs
  · cases hs
  · rename_i x hx
    have hlt := (List.getElem?_eq_some_iff.mp hx).1
    cases hb : am_c2 lo i <;> rw [hb] at hs <;> simp only [cond_true, cond_false] at hs
    · cases hs
      refine ⟨Nat.lt_of_lt_of_le hlt h.1, by rw [List.length_set, List.length_set]; exact h.1, fun q hq => ?_⟩
      obtain ⟨-, w, h2, h3⟩ := am_lp_mem.mp hq
      rw [Nat.sub_zero] at h2
      by_cases e1 : i + 1 = q.1
      · rw [← e1, List.getElem?_set_self (by rw [List.length_set]; exact hlt)] at h2
        cases h2
      rw [List.getElem?_set_ne e1] at h2
      by_cases e : i = q.1
      · rw [← e, List.getElem?_set_self (by omega)] at h2
        cases h2
        exact List.mem_cons.mpr (Or.inl (Prod.ext e.symm h3))
      · rw [List.getElem?_set_ne e] at h2
        refine List.mem_cons_of_mem _ (List.mem_filter.mpr ⟨am_lp_mem.mpr ⟨Nat.zero_le _, w, h2, h3⟩, ?_⟩)
        have h4 : (q.1 == i) = false := by simp; omega
        have h5 : (q.1 == i + 1) = false := by simp; omega
        rw [h4, h5]
        by_cases e2 : q.1 + 1 = i
        · have := am_c2_f hb h2 e2
          rw [h3, hg, this]; simp
        · simp [e2]
    · cases hs
/-- a method's locals at its entry -/
def am_lo : List Value → am_L
  | [] => []
  | .long x :: t => some (.long x) :: none :: am_lo t
  | .double x :: t => some (.double x) :: none :: am_lo t
  | v :: t => some v :: am_lo t
def am_lo0 (vs : List Value) (n : Nat) : am_L := am_lo vs ++ List.replicate (n - (am_lo vs).length) none
end
section
/-! THE PLAIN MACHINE, its steps. A row: place, instruction, next place, a branch's target, a constant. -/
abbrev am_Row : Type := Nat × Instr × Nat × Nat × Value
def am_len : Instr → Nat
  | .bipush _ => 2 | .ldc _ => 2 | .newarray _ => 2
  | .iload _ => 2 | .aload _ => 2 | .lload _ => 2 | .dload _ => 2 | .istore _ => 2 | .astore _ => 2 | .lstore _ => 2 | .dstore _ => 2
  | .sipush _ => 3 | .ldc_w _ => 3 | .ldc2_w _ => 3 | .iinc _ _ => 3 | .goto _ => 3 | .ifCond _ _ => 3 | .if_icmp _ _ => 3
  | .getfield _ => 3 | .putfield _ => 3 | .getstatic _ => 3 | .invokevirtual _ => 3 | .invokestatic _ => 3 | .invokespecial _ => 3 | .new _ => 3 | .anewarray _ => 3
  | .multianewarray _ _ => 4
  | _ => 1
def am_okK (own : String) (big : List Jvm.Cond) (r : am_Row) : Bool := match r.2.1 with
  | .iconst n => decide (r.2.2.2.2 = .int (Int32.ofInt n))
  | .bipush n => decide (r.2.2.2.2 = .int (Int8.ofInt n).toInt32)
  | .sipush n => decide (r.2.2.2.2 = .int (Int16.ofInt n).toInt32)
  | .lconst n => decide (r.2.2.2.2 = .long (Int64.ofNat (n : Nat)))
  | .dconst n => decide (r.2.2.2.2 = .double (if n = 0 then FP.dconst0 else FP.dconst1))
  | .iinc _ n => decide (r.2.2.2.2 = .int (Int32.ofInt n))
  | .ldc i => match r.2.2.2.2 with | .int v => decide (Jvm.Cond.constant own i v ∈ big) | _ => true
  | .ldc_w i => match r.2.2.2.2 with | .int v => decide (Jvm.Cond.constant own i v ∈ big) | _ => true
  | .ldc2_w i => match r.2.2.2.2 with | .long v => decide (Jvm.Cond.constantLong own i v ∈ big) | .double v => decide (Jvm.Cond.constantDouble own i v ∈ big) | _ => true
  | .goto off => decide ((r.1 : Int) + off = (r.2.2.2.1 : Int))
  | .ifCond _ off => decide ((r.1 : Int) + off = (r.2.2.2.1 : Int))
  | .if_icmp _ off => decide ((r.1 : Int) + off = (r.2.2.2.1 : Int))
  | _ => true
def am_okRow (own : String) (cc : ByteArray) (big : List Jvm.Cond) (r : am_Row) : Prop := decode cc r.1 = .ok (r.2.1, am_len r.2.1) ∧ r.2.2.1 = r.1 + am_len r.2.1 ∧ am_okK own big r = true
def am_find : List am_Row → Nat → Option am_Row
  | [], _ => none
  | r :: t, pc => bif Nat.beq r.1 pc then some r else am_find t pc
theorem am_find_ok : ∀ {tb : List am_Row} {pc : Nat} {r : am_Row}, am_find tb pc = some r → r ∈ tb ∧ r.1 = pc
  | [], _, _, h => nomatch h
  | r0 :: t, pc, r, h => by
    unfold am_find at h
    cases e : Nat.beq r0.1 pc <;> rw [e] at h <;> simp only [cond_true, cond_false] at h
    · have := am_find_ok h
      exact ⟨List.mem_cons_of_mem _ this.1, this.2⟩
    · cases h
      exact ⟨List.mem_cons_self, Nat.eq_of_beq_eq_true e⟩
def am_isk : Nat → Value → Bool
  | 0, .int _ => true
  | 1, .ref _ => true
  | 1, .null => true
  | 2, .long _ => true
  | 3, .double _ => true
  | _, _ => false
def am_ld (kd : Nat) (lo : am_L) (i : Nat) : Option Value := match lo[i]? with
  | some (some v) => bif am_isk kd v then some v else none
  | _ => none
theorem am_ld_ok {kd : Nat} {lo : am_L} {i : Nat} {v : Value} (h : am_ld kd lo i = some v) : lo[i]? = some (some v) ∧ am_isk kd v = true := by
  unfold am_ld at h
  split at h
  · rename_i w hw
    cases e : am_isk kd w <;> rw [e] at h <;> simp only [cond_true, cond_false] at h
    · cases h
    · cases h
      exact ⟨hw, e⟩
  · cases h
theorem am_isk0 {v : Value} (h : am_isk 0 v = true) : ∃ x, v = .int x := by cases v <;> first | exact ⟨_, rfl⟩ | exact absurd h (by simp [am_isk])
theorem am_isk1 {v : Value} (h : am_isk 1 v = true) : v = .null ∨ ∃ x, v = .ref x := by cases v <;> first | exact Or.inl rfl | exact Or.inr ⟨_, rfl⟩ | exact absurd h (by simp [am_isk])
theorem am_isk2 {v : Value} (h : am_isk 2 v = true) : ∃ x, v = .long x := by cases v <;> first | exact ⟨_, rfl⟩ | exact absurd h (by simp [am_isk])
theorem am_isk3 {v : Value} (h : am_isk 3 v = true) : ∃ x, v = .double x := by cases v <;> first | exact ⟨_, rfl⟩ | exact absurd h (by simp [am_isk])
/-- instructions that push one value -/
def am_push (r : am_Row) (lo : am_L) : Option Value := match r.2.1 with
  | .iconst _ => some r.2.2.2.2
  | .bipush _ => some r.2.2.2.2
  | .sipush _ => some r.2.2.2.2
  | .lconst _ => some r.2.2.2.2
  | .dconst _ => some r.2.2.2.2
  | .ldc _ => bif am_isk 0 r.2.2.2.2 then some r.2.2.2.2 else none
  | .ldc_w _ => bif am_isk 0 r.2.2.2.2 then some r.2.2.2.2 else none
  | .ldc2_w _ => bif am_isk 2 r.2.2.2.2 || am_isk 3 r.2.2.2.2 then some r.2.2.2.2 else none
  | .iload_n k => am_ld 0 lo k
  | .iload k => am_ld 0 lo k
  | .aload_n k => am_ld 1 lo k
  | .aload k => am_ld 1 lo k
  | .lload_n k => am_ld 2 lo k
  | .lload k => am_ld 2 lo k
  | .dload_n k => am_ld 3 lo k
  | .dload k => am_ld 3 lo k
  | _ => none
/-- of two values that lie on top (the upper first), one -/
def am_bin : Instr → Value → Value → Option Value
  | .iadd, .int y, .int x => some (.int (x + y))
  | .isub, .int y, .int x => some (.int (x - y))
  | .imul, .int y, .int x => some (.int (x * y))
  | .iand, .int y, .int x => some (.int (x &&& y))
  | .ior, .int y, .int x => some (.int (x ||| y))
  | .ixor, .int y, .int x => some (.int (x ^^^ y))
  | .ishl, .int y, .int x => some (.int (x <<< (y &&& 31)))
  | .ishr, .int y, .int x => some (.int (x >>> (y &&& 31)))
  | .iushr, .int y, .int x => some (.int (x.toUInt32 >>> (y.toUInt32 &&& Int32.toUInt32 31)).toInt32)
  | .ladd, .long y, .long x => some (.long (x + y))
  | .lmul, .long y, .long x => some (.long (x * y))
  | .lcmp, .long y, .long x => some (.int (lg_cmp x y))
  | .dcmp op, .double y, .double x => some (.int (Op.cmpValue (FP.dcmp x y) op))
  | .idiv, .int y, .int x => if y = 0 then none else some (.int (x / y))
  | .irem, .int y, .int x => if y = 0 then none else some (.int (x - x / y * y))
  | _, _, _ => none
def am_un : Instr → Value → Option Value
  | .i2l, .int x => some (.long x.toInt64)
  | .l2i, .long x => some (.int x.toInt32)
  | .i2d, .int x => some (.double (FP.i2d x))
  | .ineg, .int x => some (.int (-x))
  | _, _ => none
/-- the stack by itself -/
def am_stk : Instr → List Value → Option (List Value)
  | .dup, .int x :: t => some (.int x :: .int x :: t)
  | .dup, .ref x :: t => some (.ref x :: .ref x :: t)
  | .dup, .null :: t => some (.null :: .null :: t)
  | .pop, .int _ :: t => some t
  | .pop, .ref _ :: t => some t
  | .pop, .null :: t => some t
  | .dup2, .int x :: .int y :: t => some (.int x :: .int y :: .int x :: .int y :: t)
  | .dup2, .int x :: .ref y :: t => some (.int x :: .ref y :: .int x :: .ref y :: t)
  | i, y :: x :: t => match am_bin i y x with
    | some v => some (v :: t)
    | none => match am_un i y with
      | some v => some (v :: x :: t)
      | none => none
  | i, y :: t => match am_un i y with
    | some v => some (v :: t)
    | none => none
  | _, _ => none
def am_sto : Instr → List Value → am_L → Option (am_L × List Value)
  | .istore_n k, .int x :: t, lo => (am_st1 lo k (.int x)).map (·, t)
  | .istore k, .int x :: t, lo => (am_st1 lo k (.int x)).map (·, t)
  | .astore_n k, .ref x :: t, lo => (am_st1 lo k (.ref x)).map (·, t)
  | .astore k, .ref x :: t, lo => (am_st1 lo k (.ref x)).map (·, t)
  | .lstore_n k, .long x :: t, lo => (am_st2 lo k (.long x)).map (·, t)
  | .lstore k, .long x :: t, lo => (am_st2 lo k (.long x)).map (·, t)
  | .dstore_n k, .double x :: t, lo => (am_st2 lo k (.double x)).map (·, t)
  | .dstore k, .double x :: t, lo => (am_st2 lo k (.double x)).map (·, t)
  | _, _, _ => none
section AMW
variable {D : va_G} {cl : List vw_C} {cA : Nat → ClassId} {sb base : Nat} {p : Program} {l : Launch} {e : Env} {R : Room} {s : State} {m : MethodId} {args : Array Value} {below : List Frame} {meth : Method} {c : Code} {nL : Nat} {Q : State → Prop}
/-- from this frame and these cells the machine comes to a state with Q; rc cells of rs slots may still be made -/
def am_W (D : va_G) (cl : List vw_C) (cA : Nat → ClassId) (sb base : Nat) (p : Program) (l : Launch) (e : Env) (R : Room) (s : State) (m : MethodId) (args : Array Value) (below : List Frame) (meth : Method) (c : Code) (nL : Nat) (Q : State → Prop) (pc : Nat) (lo : am_L) (st : List Value) (h : am_H) (rc rs : Nat) : Prop :=
  ∀ (H : Heap) (locs : List Loc) (cells slots : Nat) (ls : Array Slot), am_R D cl cA sb base s h H → va_S (fun q => base ≤ q) s.heap H locs → cells + rc ≤ R.cells → slots + rs ≤ R.slots → am_LR (am_cv sb base) ls nL lo →
    W p l e R s m args below meth c H locs cells slots Q (F0 m pc ls (st.map (am_cv sb base)))
variable {cc : ByteArray} {own : String} {big : List Jvm.Cond} {r : am_Row} {lo lo' : am_L} {st st' : List Value} {h : am_H} {rc rs : Nat} {v : Value}
theorem am_push_ok (hx : p.tables.exec = Jvm.exec) (hb : c.code = cc) (hown : s.vm.findClass own = some m.cls) (hts : ∀ w ∈ big, w.before args s = true) (hr : am_okRow own cc big r) (hp : am_push r lo = some v)
    (k : am_W D cl cA sb base p l e R s m args below meth c nL Q r.2.2.1 lo (v :: st) h rc rs) : am_W D cl cA sb base p l e R s m args below meth c nL Q r.1 lo st h rc rs := by
  obtain ⟨pc, i, nx, tg, kv⟩ := r
  obtain ⟨hd, hn, hk⟩ := hr
  dsimp only at hd hn hp k ⊢
  subst hn
  intro H locs cells slots ls hR hS h1 h2 hl
  have K := k H locs cells slots ls hR hS h1 h2 hl
  clear k
  unfold am_push at hp
  dsimp only at hp
  split at hp
  all_goals first
    | (cases hp; done)
    | skip
  · cases hp
    have hk := of_decide_eq_true hk
    dsimp only at hk; subst hk
    exact lv_iconst hx hb hd rfl K
  · cases hp
    have hk := of_decide_eq_true hk
    dsimp only at hk; subst hk
    exact lv_bipush hx hb hd rfl K
  · cases hp
    have hk := of_decide_eq_true hk
    dsimp only at hk; subst hk
    exact lv_sipush hx hb hd rfl K
  · cases hp
    have hk := of_decide_eq_true hk
    dsimp only at hk; subst hk
    exact lv_lconst hx hb hd rfl K
  · rename_i n
    cases hp
    have hk := of_decide_eq_true hk
    dsimp only at hk; subst hk
    by_cases e : n = 0
    · subst e
      exact lv_dconst0 hx hb hd K
    · have e1 : n = 1 := by omega
      subst e1
      exact lv_dconst1 hx hb hd K
  · cases e : am_isk 0 kv <;> rw [e] at hp <;> simp only [cond_true, cond_false] at hp
    · cases hp
    · cases hp
      obtain ⟨x, rfl⟩ := am_isk0 e
      exact lv_ldc hx hb hown (hts _ (of_decide_eq_true hk)) hd K
  · cases e : am_isk 0 kv <;> rw [e] at hp <;> simp only [cond_true, cond_false] at hp
    · cases hp
    · cases hp
      obtain ⟨x, rfl⟩ := am_isk0 e
      exact lv_ldcw hx hb hown (hts _ (of_decide_eq_true hk)) hd K
  · cases e : (am_isk 2 kv || am_isk 3 kv) <;> rw [e] at hp <;> simp only [cond_true, cond_false] at hp
    · cases hp
    · cases hp
      rcases Bool.or_eq_true_iff.mp e with e | e
      · obtain ⟨x, rfl⟩ := am_isk2 e
        exact lv_ldc2 hx hb hown (hts _ (of_decide_eq_true hk)) hd K
      · obtain ⟨x, rfl⟩ := am_isk3 e
        exact lv_ldc2d hx hb hown (hts _ (of_decide_eq_true hk)) hd K
  · obtain ⟨e1, e2⟩ := am_ld_ok hp
    obtain ⟨x, rfl⟩ := am_isk0 e2
    exact lv_iload_n hx hb hd rfl (hl.at e1) K
  · obtain ⟨e1, e2⟩ := am_ld_ok hp
    obtain ⟨x, rfl⟩ := am_isk0 e2
    exact lv_iload hx hb hd (hl.at e1) K
  · obtain ⟨e1, e2⟩ := am_ld_ok hp
    rcases am_isk1 e2 with rfl | ⟨x, rfl⟩
    · exact lv_aload_nN hx hb hd rfl (hl.at e1) K
    · exact lv_aload_n hx hb hd rfl (hl.at e1) K
  · obtain ⟨e1, e2⟩ := am_ld_ok hp
    rcases am_isk1 e2 with rfl | ⟨x, rfl⟩
    · exact lv_aloadN hx hb hd (hl.at e1) K
    · exact lv_aload hx hb hd (hl.at e1) K
  · obtain ⟨e1, e2⟩ := am_ld_ok hp
    obtain ⟨x, rfl⟩ := am_isk2 e2
    exact lv_lload_n hx hb hd rfl (hl.at e1) K
  · obtain ⟨e1, e2⟩ := am_ld_ok hp
    obtain ⟨x, rfl⟩ := am_isk2 e2
    exact lv_lload hx hb hd (hl.at e1) K
  · obtain ⟨e1, e2⟩ := am_ld_ok hp
    obtain ⟨x, rfl⟩ := am_isk3 e2
    exact lv_dload_n hx hb hd rfl (hl.at e1) K
  · obtain ⟨e1, e2⟩ := am_ld_ok hp
    obtain ⟨x, rfl⟩ := am_isk3 e2
    exact lv_dload hx hb hd (hl.at e1) K
theorem am_bin_ok (hx : p.tables.exec = Jvm.exec) (hb : c.code = cc) (hr : am_okRow own cc big r) {y x : Value} (hp : am_bin r.2.1 y x = some v)
    (k : am_W D cl cA sb base p l e R s m args below meth c nL Q r.2.2.1 lo (v :: st) h rc rs) : am_W D cl cA sb base p l e R s m args below meth c nL Q r.1 lo (y :: x :: st) h rc rs := by
  obtain ⟨pc, i, nx, tg, kv⟩ := r
  obtain ⟨hd, hn, hk⟩ := hr
  dsimp only at hd hn hp k ⊢
  subst hn
  intro H locs cells slots ls hR hS h1 h2 hl
  have K := k H locs cells slots ls hR hS h1 h2 hl
  clear k
  unfold am_bin at hp
  split at hp
  · cases hp; exact lv_iadd hx hb hd K
  · cases hp; exact lv_isub hx hb hd K
  · cases hp; exact lv_imul hx hb hd K
  · cases hp; exact lv_iand hx hb hd K
  · cases hp; exact lv_ior hx hb hd K
  · cases hp; exact lv_ixor hx hb hd K
  · cases hp; exact lv_ishl hx hb hd K
  · cases hp; exact lv_ishr hx hb hd K
  · cases hp; exact lv_iushr hx hb hd rfl K
  · cases hp; exact lv_ladd hx hb hd K
  · cases hp; exact lv_lmul hx hb hd K
  · cases hp; exact W.lcmp hx hb hd K
  · cases hp; exact lv_dcmp hx hb hd K
  · split at hp
    · cases hp
    · rename_i hne
      cases hp
      exact lv_idiv hx hb hd hne K
  · split at hp
    · cases hp
    · rename_i hne
      cases hp
      exact lv_irem hx hb hd hne K
  · cases hp
theorem am_un_ok (hx : p.tables.exec = Jvm.exec) (hb : c.code = cc) (hr : am_okRow own cc big r) {y : Value} (hp : am_un r.2.1 y = some v)
    (k : am_W D cl cA sb base p l e R s m args below meth c nL Q r.2.2.1 lo (v :: st) h rc rs) : am_W D cl cA sb base p l e R s m args below meth c nL Q r.1 lo (y :: st) h rc rs := by
  obtain ⟨pc, i, nx, tg, kv⟩ := r
  obtain ⟨hd, hn, hk⟩ := hr
  dsimp only at hd hn hp k ⊢
  subst hn
  intro H locs cells slots ls hR hS h1 h2 hl
  have K := k H locs cells slots ls hR hS h1 h2 hl
  clear k
  unfold am_un at hp
  split at hp
  · cases hp; exact lv_i2l hx hb hd rfl K
  · cases hp; exact lv_l2i hx hb hd rfl K
  · cases hp; exact lv_i2d hx hb hd K
  · cases hp; exact lv_ineg hx hb hd K
  · cases hp
theorem am_stk_ok (hx : p.tables.exec = Jvm.exec) (hb : c.code = cc) (hr : am_okRow own cc big r) (hp : am_stk r.2.1 st = some st')
    (k : am_W D cl cA sb base p l e R s m args below meth c nL Q r.2.2.1 lo st' h rc rs) : am_W D cl cA sb base p l e R s m args below meth c nL Q r.1 lo st h rc rs := by
  have hr0 := hr
  obtain ⟨pc, i, nx, tg, kv⟩ := r
  obtain ⟨hd, hn, hk⟩ := hr
  dsimp only at hd hn hp
  unfold am_stk at hp
  split at hp
  · cases hp
    intro H locs cells slots ls hR hS h1 h2 hl
    have K := k H locs cells slots ls hR hS h1 h2 hl
    dsimp only at K ⊢
    subst hn
    exact lv_dup hx hb hd rfl K
  · cases hp
    intro H locs cells slots ls hR hS h1 h2 hl
    have K := k H locs cells slots ls hR hS h1 h2 hl
    dsimp only at K ⊢
    subst hn
    exact lv_dup hx hb hd rfl K
  · cases hp
    intro H locs cells slots ls hR hS h1 h2 hl
    have K := k H locs cells slots ls hR hS h1 h2 hl
    dsimp only at K ⊢
    subst hn
    exact lv_dup hx hb hd rfl K
  · cases hp
    intro H locs cells slots ls hR hS h1 h2 hl
    have K := k H locs cells slots ls hR hS h1 h2 hl
    dsimp only at K ⊢
    subst hn
    exact lv_pop hx hb hd rfl K
  · cases hp
    intro H locs cells slots ls hR hS h1 h2 hl
    have K := k H locs cells slots ls hR hS h1 h2 hl
    dsimp only at K ⊢
    subst hn
    exact lv_pop hx hb hd rfl K
  · cases hp
    intro H locs cells slots ls hR hS h1 h2 hl
    have K := k H locs cells slots ls hR hS h1 h2 hl
    dsimp only at K ⊢
    subst hn
    exact lv_pop hx hb hd rfl K
  · cases hp
    intro H locs cells slots ls hR hS h1 h2 hl
    have K := k H locs cells slots ls hR hS h1 h2 hl
    dsimp only at K ⊢
    subst hn
    exact lv_dup2_11 hx hb hd rfl rfl K
  · cases hp
    intro H locs cells slots ls hR hS h1 h2 hl
    have K := k H locs cells slots ls hR hS h1 h2 hl
    dsimp only at K ⊢
    subst hn
    exact lv_dup2_11 hx hb hd rfl rfl K
  · split at hp
    · rename_i hv
      cases hp
      exact am_bin_ok hx hb hr0 hv k
    · split at hp
      · rename_i hv
        cases hp
        exact am_un_ok hx hb hr0 hv k
      · cases hp
  · split at hp
    · rename_i hv
      cases hp
      exact am_un_ok hx hb hr0 hv k
    · cases hp
  · cases hp
theorem am_sto_ok (hx : p.tables.exec = Jvm.exec) (hb : c.code = cc) (hr : am_okRow own cc big r) (hp : am_sto r.2.1 st lo = some (lo', st'))
    (k : am_W D cl cA sb base p l e R s m args below meth c nL Q r.2.2.1 lo' st' h rc rs) : am_W D cl cA sb base p l e R s m args below meth c nL Q r.1 lo st h rc rs := by
  obtain ⟨pc, i, nx, tg, kv⟩ := r
  obtain ⟨hd, hn, hk⟩ := hr
  dsimp only at hd hn hp k ⊢
  subst hn
  intro H locs cells slots ls hR hS h1 h2 hl
  have K := fun ls hl => k H locs cells slots ls hR hS h1 h2 hl
  clear k
  have fin : ∀ {ls' : Array Slot} {L : List (Nat × Value)} {lo1 : am_L}, lo1.length ≤ nL → (∀ q ∈ am_lp (am_cv sb base) 0 lo1, q ∈ L) → lv_has ls' nL L → am_LR (am_cv sb base) ls' nL lo1 :=
    fun a b h3 => ⟨a, h3.1, h3.2.1, fun q hq => h3.2.2 q (b q hq)⟩
  unfold am_sto at hp
  split at hp
  all_goals first
    | (cases hp; done)
    | (obtain ⟨lo1, e1, e2⟩ := Option.map_eq_some_iff.mp hp
       cases e2
       first
       | (obtain ⟨a1, a2, a3⟩ := am_st1_ok (am_cv_cat sb base) hl e1 rfl
          first
          | exact lv_istore_n hx hb hd rfl hl.2 a1 rfl (fun ls' h' => K ls' (fin a2 a3 h'))
          | exact lv_istore hx hb hd hl.2 a1 rfl (fun ls' h' => K ls' (fin a2 a3 h'))
          | exact lv_astore_n hx hb hd rfl hl.2 a1 rfl (fun ls' h' => K ls' (fin a2 a3 h'))
          | exact lv_astore hx hb hd hl.2 a1 rfl (fun ls' h' => K ls' (fin a2 a3 h')))
       | (obtain ⟨a1, a2, a3⟩ := am_st2_ok (am_cv_cat sb base) hl e1
          first
          | exact lv_lstore_n hx hb hd rfl hl.2 a1 rfl (fun ls' h' => K ls' (fin a2 a3 h'))
          | exact lv_lstore hx hb hd hl.2 a1 rfl (fun ls' h' => K ls' (fin a2 a3 h'))
          | exact lv_dstore_n hx hb hd rfl hl.2 a1 rfl (fun ls' h' => K ls' (fin a2 a3 h'))
          | exact lv_dstore hx hb hd hl.2 a1 rfl (fun ls' h' => K ls' (fin a2 a3 h'))))
theorem am_goto_ok (hx : p.tables.exec = Jvm.exec) (hb : c.code = cc) (hr : am_okRow own cc big r) {off : Int} (hi : r.2.1 = .goto off)
    (k : am_W D cl cA sb base p l e R s m args below meth c nL Q r.2.2.2.1 lo st h rc rs) : am_W D cl cA sb base p l e R s m args below meth c nL Q r.1 lo st h rc rs := by
  obtain ⟨pc, i, nx, tg, kv⟩ := r
  obtain ⟨hd, hn, hk⟩ := hr
  dsimp only at hd hn hi k ⊢
  subst hi
  intro H locs cells slots ls hR hS h1 h2 hl
  exact lv_goto hx hb hd (of_decide_eq_true hk) (k H locs cells slots ls hR hS h1 h2 hl)
theorem am_iinc_ok (hx : p.tables.exec = Jvm.exec) (hb : c.code = cc) (hr : am_okRow own cc big r) {j : Nat} {n : Int} {x y : Int32} (hi : r.2.1 = .iinc j n) (hy : r.2.2.2.2 = .int y) (hj : lo[j]? = some (some (.int x))) (hs : am_st1 lo j (.int (x + y)) = some lo')
    (k : am_W D cl cA sb base p l e R s m args below meth c nL Q r.2.2.1 lo' st h rc rs) : am_W D cl cA sb base p l e R s m args below meth c nL Q r.1 lo st h rc rs := by
  obtain ⟨pc, i, nx, tg, kv⟩ := r
  obtain ⟨hd, hn, hk⟩ := hr
  dsimp only at hd hn hi hy k ⊢
  subst hi
  subst hn
  subst hy
  have hk := of_decide_eq_true hk
  dsimp only at hk
  cases hk
  intro H locs cells slots ls hR hS h1 h2 hl
  obtain ⟨a1, a2, a3⟩ := am_st1_ok (am_cv_cat sb base) hl hs rfl
  have hm : (j, Value.int x) ∈ am_lp (am_cv sb base) 0 lo := am_lp_mem.mpr ⟨Nat.zero_le _, .int x, hj, rfl⟩
  obtain ⟨q, hq⟩ := List.getElem?_of_mem hm
  exact lv_iinc hx hb hd hl.2 hq rfl a1 rfl (fun ls' h' => k H locs cells slots ls' hR hS h1 h2 ⟨a2, h'.1, h'.2.1, fun q hq => h'.2.2 q (a3 q hq)⟩)
end AMW
end
