/-! THE PLAIN MACHINE, its pictures: cells by their number (0 the script, then those that the law makes, in the order in which they come), values with cells' numbers as references. -/
abbrev am_L : Type := List (Option Value)
abbrev am_C : Type := (Nat × vp_A) ⊕ (Nat × List Value)
abbrev am_H : Type := List am_C
/-- where cell k lies: the script at sb, the others from base on -/
def am_ad (sb base : Nat) : Nat → Nat
  | 0 => sb
  | k + 1 => base + k
def am_cv (sb base : Nat) : Value → Value
  | .ref k => .ref (am_ad sb base k)
  | v => v
def am_cx (sb base : Nat) : vp_A → vp_A
  | (n, .inr (.inr (.inr (.inr f)))) => (n, .inr (.inr (.inr (.inr (fun i => (f i).map (am_ad sb base))))))
  | x => x
theorem am_cv_cat (sb base : Nat) (v : Value) : (am_cv sb base v).category = v.category := by cases v <;> rfl
theorem am_ad_inj {sb base : Nat} (h : sb < base) {i j : Nat} (e : am_ad sb base i = am_ad sb base j) : i = j := by
  cases i <;> cases j <;> simp only [am_ad] at e <;> omega
theorem am_ad_ge {sb base k : Nat} : base ≤ am_ad sb base (k + 1) := Nat.le_add_right _ _
/-- what stands at an address -/
def am_at (D : va_G) (cl : List vw_C) (cA : Nat → ClassId) (sb base : Nat) (U : State) (H : Heap) (a : Nat) : am_C → Prop
  | .inl q => (q.1 = 99 → ∃ scr : Cell, H[a]? = some scr ∧ U.isArrayOf scr .int ∧ scr.vm ≠ .unknown ∧ scr.slots.size = q.2.1 ∧ ∃ xs : Nat → Int32, q.2.2 = .inl xs ∧ ∀ j : Nat, j < q.2.1 → scr.slots[j]? = some (.int (xs j))) ∧
    (q.1 ≠ 99 → (q.1 = 98 ∧ a < H.size) ∨ H[a]? = some (vp_cell (cA q.1) (am_cx sb base q.2)))
  | .inr q => ∃ r : vw_C, cl[q.1]? = some r ∧ t_OB a (D.1 q.1) r.2.2 (D.2 q.1) H (vp_V (q.2.map (am_cv sb base)))
/-- the heap H holds the cells h -/
def am_R (D : va_G) (cl : List vw_C) (cA : Nat → ClassId) (sb base : Nat) (U : State) (h : am_H) (H : Heap) : Prop :=
  sb < base ∧ H.size + 1 = base + h.length ∧ (∃ x : vp_A, h[0]? = some (.inl (99, x))) ∧ ∀ (k : Nat) (c : am_C), h[k]? = some c → am_at D cl cA sb base U H (am_ad sb base k) c
/-- the word that arrays of arrays of a kind are known -/
theorem am_AOA_spec {t : FieldType} {s : State} (h : (Jvm.Cond.arrayOver (.array t)).before #[] s = true) :
    ∃ comp c k, s.vm.findClass (FieldType.array t).toString = some comp ∧ (s.vm.classes.findIdx? fun (x : Class) => match x.kind with | .array component _ => component == comp | _ => false) = some c ∧ s.vm.classes[c]? = some k ∧ k.kind = .array comp (.array t) ∧ s.vm.findClass ("[" ++ (FieldType.array t).toString) = some c := by
  unfold Cond.before at h
  simp only [Cond.holds, Cond.value, beq_iff_eq] at h
  cases hc : s.vm.findClass (FieldType.array t).toString with
  | none => simp [hc] at h
  | some comp =>
    simp only [hc, Option.bind_some, Option.bind_eq_some_iff, Option.map_eq_some_iff] at h
    obtain ⟨c, h1, k, h2, h3⟩ := h
    cases hk : k.kind with
    | array cp ty =>
      rw [hk] at h3
      simp only [Bool.and_eq_true, decide_eq_true_eq] at h3
      obtain ⟨h4, h5⟩ := h3
      have h6 := Array.findIdx?_eq_some_iff_getElem.mp h1
      obtain ⟨q1, q2, -⟩ := h6
      have h7 : s.vm.classes[c] = k := Option.some.inj ((Array.getElem?_eq_getElem q1).symm.trans h2)
      rw [h7, hk] at q2
      have q3 : cp = comp := eq_of_beq q2
      subst q3; subst h4
      exact ⟨cp, c, k, rfl, h1, h2, hk, h5⟩
    | _ => rw [hk] at h3; cases h3
theorem am_AOA_moved {t : FieldType} {u U : State} (hvm : u.vm.Alike U.vm) (h : (Jvm.Cond.arrayOver (.array t)).before #[] u = true) : (Jvm.Cond.arrayOver (.array t)).before #[] U = true := by
  obtain ⟨comp, c, k, h1, h2, h3, h4, h5⟩ := am_AOA_spec h
  obtain ⟨k', hk', he⟩ := hvm.2.2 _ _ h3
  have hi : (U.vm.classes.findIdx? fun (x : Class) => match x.kind with | .array component _ => component == comp | _ => false) = some c := by
    refine (va_idx_bare U.vm comp).symm.trans ?_
    first | rw [hvm.bare_eq] | rw [← hvm.bare_eq]
    exact (va_idx_bare u.vm comp).trans h2
  have hkind : k'.kind = .array comp (.array t) := by rw [he]; exact h4
  have f1 : U.vm.findClass (FieldType.array t).toString = some comp := by rw [hvm.findClass]; exact h1
  have f2 : U.vm.findClass ("[" ++ (FieldType.array t).toString) = some c := by rw [hvm.findClass]; exact h5
  unfold Cond.before
  simp only [Cond.holds, Cond.value, f1, Option.bind_some, beq_iff_eq]
  rw [Option.bind_eq_some_iff]
  refine ⟨c, hi, ?_⟩
  simp [hk', hkind, f2]
/-- the classes and the kinds of arrays, as the tables have them; nest mates' links -/
def am_K (D : va_G) (cl : List vw_C) (cA : Nat → ClassId) (tys : List FieldType) (U : State) : Prop :=
  (∀ (c : Nat) (q : vw_C), cl[c]? = some q → u_Kn U q.1 q.2.1 q.2.2 (D.1 c) (D.2 c)) ∧ (∀ (t : Nat) (ty : FieldType), tys[t]? = some ty → am_on t = true → ArrOfT U (cA t) ty ∧ va_RA U (cA t) ty) ∧
  (∀ q ∈ am_nst, va_Nw (.methodLinkNest q.1 q.2.1 q.2.2.1 q.2.2.2) U) ∧ va_AO "TraceAligner$Trace" U ∧ (Jvm.Cond.arrayOver (.array .int)).before #[] U = true
theorem am_K.moved {D : va_G} {cl : List vw_C} {cA : Nat → ClassId} {tys : List FieldType} {u U : State} (hW : u.WarmedH U.vm) (h : am_K D cl cA tys u) : am_K D cl cA tys U :=
  ⟨fun c q hq => u_Kn_moved hW.alike (h.1 c q hq), fun t ty ht ho => ⟨arrOfT_moved hW.alike (h.2.1 t ty ht ho).1, (h.2.1 t ty ht ho).2.moved hW.alike⟩, fun q hq => va_Nw.warmM hW (h.2.2.1 q hq), va_AO.moved hW.alike h.2.2.2.1, am_AOA_moved hW.alike h.2.2.2.2⟩
section AMR
variable {D : va_G} {cl : List vw_C} {cA : Nat → ClassId} {sb base : Nat} {u U : State} {h : am_H} {H H1 : Heap}
theorem am_at.kept {a : Nat} {c : am_C} (hq : H1[a]? = H[a]?) (h : am_at D cl cA sb base U H a c) : am_at D cl cA sb base U H1 a c := by
  cases c with
  | inl q =>
    refine ⟨fun ht => ?_, fun ht => (h.2 ht).imp (fun z => ⟨z.1, (Array.getElem?_eq_some_iff.mp (hq.trans (Array.getElem?_eq_getElem z.2))).1⟩) (fun z => hq.trans z)⟩
    obtain ⟨scr, h1, h2⟩ := h.1 ht
    exact ⟨scr, hq.trans h1, h2⟩
  | inr q =>
    obtain ⟨r, h1, h2⟩ := h
    exact ⟨r, h1, h2.kept hq⟩
theorem am_at.moved {a : Nat} {c : am_C} (hvm : u.vm.Alike U.vm) (h : am_at D cl cA sb base u H a c) : am_at D cl cA sb base U H a c := by
  cases c with
  | inl q =>
    refine ⟨fun ht => ?_, h.2⟩
    obtain ⟨scr, h1, h2, h3⟩ := h.1 ht
    exact ⟨scr, h1, State.isArrayOf_alike hvm h2, h3⟩
  | inr q => exact h
theorem am_R.moved (hvm : u.vm.Alike U.vm) (R : am_R D cl cA sb base u h H) : am_R D cl cA sb base U h H :=
  ⟨R.1, R.2.1, R.2.2.1, fun k c hk => (R.2.2.2 k c hk).moved hvm⟩
theorem am_R.lt (R : am_R D cl cA sb base U h H) {k : Nat} {c : am_C} (hk : h[k]? = some c) : am_ad sb base k < H.size := by
  have h1 := R.2.2.2 k c hk
  cases c with
  | inl q =>
    by_cases e : q.1 = 99
    · obtain ⟨scr, h2, -⟩ := h1.1 e
      exact (Array.getElem?_eq_some_iff.mp h2).1
    · exact (h1.2 e).elim (fun z => z.2) (fun z => (Array.getElem?_eq_some_iff.mp z).1)
  | inr q =>
    obtain ⟨r, -, cell, h2, -⟩ := h1
    exact (Array.getElem?_eq_some_iff.mp h2).1
theorem am_R.pos (R : am_R D cl cA sb base U h H) : 0 < h.length := by
  obtain ⟨x, hx⟩ := R.2.2.1
  exact (List.getElem?_eq_some_iff.mp hx).1
/-- one cell anew -/
theorem am_R.set (R : am_R D cl cA sb base U h H) {k : Nat} {c c1 : am_C} (hk : h[k]? = some c) (hz : H1.size = H.size) (ho : ∀ q, q ≠ am_ad sb base k → H1[q]? = H[q]?) (hk0 : k ≠ 0) (hc : am_at D cl cA sb base U H1 (am_ad sb base k) c1) : am_R D cl cA sb base U (h.set k c1) H1 := by
  refine ⟨R.1, by rw [hz, List.length_set]; exact R.2.1, ?_, fun j d hj => ?_⟩
  · obtain ⟨x, hx⟩ := R.2.2.1
    exact ⟨x, by rw [List.getElem?_set_ne hk0]; exact hx⟩
  · by_cases e : k = j
    · subst e
      rw [List.getElem?_set_self (List.getElem?_eq_some_iff.mp hk).1] at hj
      cases hj
      exact hc
    · rw [List.getElem?_set_ne e] at hj
      exact (R.2.2.2 j d hj).kept (ho _ fun q => e (am_ad_inj R.1 q).symm)
/-- a new cell -/
theorem am_R.push (R : am_R D cl cA sb base U h H) {c1 : am_C} (hz : H1.size = H.size + 1) (ho : ∀ q, q < H.size → H1[q]? = H[q]?) (hc : am_at D cl cA sb base U H1 H.size c1) : am_R D cl cA sb base U (h ++ [c1]) H1 := by
  have hp := R.pos
  refine ⟨R.1, by rw [hz, List.length_append, List.length_singleton, R.2.1]; omega, ?_, fun j d hj => ?_⟩
  · obtain ⟨x, hx⟩ := R.2.2.1
    exact ⟨x, by rw [List.getElem?_append_left hp]; exact hx⟩
  · by_cases e : j < h.length
    · rw [List.getElem?_append_left e] at hj
      exact (R.2.2.2 j d hj).kept (ho _ (R.lt hj))
    · rw [List.getElem?_append_right (by omega)] at hj
      have hz : j - h.length < 1 := (List.getElem?_eq_some_iff.mp hj).1
      rw [show j - h.length = 0 by omega] at hj
      cases hj
      have h2 := R.2.1
      have : am_ad sb base j = H.size := by
        obtain ⟨i, rfl⟩ : ∃ i, j = i + 1 := ⟨j - 1, by omega⟩
        show base + i = H.size
        omega
      rw [this]
      exact hc
theorem am_R.next (R : am_R D cl cA sb base U h H) : am_ad sb base h.length = H.size := by
  have hp := R.pos
  have h2 := R.2.1
  obtain ⟨i, hi⟩ : ∃ i, h.length = i + 1 := ⟨h.length - 1, by omega⟩
  rw [hi]
  show base + i = H.size
  omega
/-- a cell of which nothing is said -/
abbrev am_unk : am_C := .inl (98, 0, .inl fun _ => 0)
theorem am_R.grow (R : am_R D cl cA sb base U h H) (hz : H.size ≤ H1.size) (ho : ∀ q, q < H.size → H1[q]? = H[q]?) : am_R D cl cA sb base U (h ++ List.replicate (H1.size - H.size) am_unk) H1 := by
  have hp := R.pos
  have h2 := R.2.1
  refine ⟨R.1, by rw [List.length_append, List.length_replicate]; omega, ?_, fun j d hj => ?_⟩
  · obtain ⟨x, hx⟩ := R.2.2.1
    exact ⟨x, by rw [List.getElem?_append_left hp]; exact hx⟩
  · by_cases e : j < h.length
    · rw [List.getElem?_append_left e] at hj
      exact (R.2.2.2 j d hj).kept (ho _ (R.lt hj))
    · rw [List.getElem?_append_right (by omega), List.getElem?_replicate] at hj
      split at hj
      · rename_i hlt
        cases hj
        refine ⟨fun q => absurd q (by decide), fun _ => Or.inl ⟨rfl, ?_⟩⟩
        obtain ⟨i, rfl⟩ : ∃ i, j = i + 1 := ⟨j - 1, by omega⟩
        show base + i < H1.size
        omega
      · cases hj
end AMR
/-! locals -/
def am_lp (g : Value → Value) : Nat → am_L → List (Nat × Value)
  | _, [] => []
  | k, none :: t => am_lp g (k + 1) t
  | k, some v :: t => (k, g v) :: am_lp g (k + 1) t
theorem am_lp_mem {g : Value → Value} : ∀ {lo : am_L} {k : Nat} {q : Nat × Value}, q ∈ am_lp g k lo ↔ k ≤ q.1 ∧ ∃ v, lo[q.1 - k]? = some (some v) ∧ q.2 = g v
  | [], k, q => by simp [am_lp]
  | none :: t, k, q => by
    rw [am_lp, am_lp_mem]
    constructor
    · rintro ⟨h1, v, h2, h3⟩
      refine ⟨by omega, v, ?_, h3⟩
      rw [show q.1 - k = (q.1 - (k + 1)) + 1 by omega, List.getElem?_cons_succ]
      exact h2
    · rintro ⟨h1, v, h2, h3⟩
      by_cases e : q.1 = k
      · rw [show q.1 - k = 0 by omega] at h2
        cases h2
      · rw [show q.1 - k = (q.1 - (k + 1)) + 1 by omega, List.getElem?_cons_succ] at h2
        exact ⟨by omega, v, h2, h3⟩
  | some w :: t, k, q => by
    rw [am_lp, List.mem_cons, am_lp_mem]
    constructor
    · rintro (rfl | ⟨h1, v, h2, h3⟩)
      · exact ⟨Nat.le_refl _, w, by simp, rfl⟩
      · refine ⟨by omega, v, ?_, h3⟩
        rw [show q.1 - k = (q.1 - (k + 1)) + 1 by omega, List.getElem?_cons_succ]
        exact h2
    · rintro ⟨h1, v, h2, h3⟩
      by_cases e : q.1 = k
      · rw [show q.1 - k = 0 by omega] at h2
        cases h2
        left
        exact Prod.ext e h3
      · right
        rw [show q.1 - k = (q.1 - (k + 1)) + 1 by omega, List.getElem?_cons_succ] at h2
        exact ⟨by omega, v, h2, h3⟩
/-- the frame's locals hold lo -/
def am_LR (g : Value → Value) (ls : Array Slot) (nL : Nat) (lo : am_L) : Prop := lo.length ≤ nL ∧ lv_has ls nL (am_lp g 0 lo)
theorem am_LR.at {g : Value → Value} {ls : Array Slot} {nL : Nat} {lo : am_L} (h : am_LR g ls nL lo) {i : Nat} {v : Value} (hi : lo[i]? = some (some v)) : ls[i]? = some (.val (g v)) :=
  h.2.2.2 (i, g v) (am_lp_mem.mpr ⟨Nat.zero_le _, v, hi, rfl⟩)
def am_c2 (lo : am_L) : Nat → Bool
  | 0 => false
  | j + 1 => match lo[j]? with
    | some (some (.long _)) => true
    | some (some (.double _)) => true
    | _ => false
theorem am_c2_f {lo : am_L} {i j : Nat} {v : Value} (h : am_c2 lo i = false) (hj : lo[j]? = some (some v)) (e : j + 1 = i) : v.category = 1 := by
  subst e
  cases v <;> first | rfl | (simp [am_c2, hj] at h)
def am_st1 (lo : am_L) (i : Nat) (v : Value) : Option am_L := match lo[i]? with
  | none => none
  | some _ => bif am_c2 lo i then none else some (lo.set i (some v))
def am_st2 (lo : am_L) (i : Nat) (v : Value) : Option am_L := match lo[i + 1]? with
  | none => none
  | some _ => bif am_c2 lo i then none else some ((lo.set i (some v)).set (i + 1) none)
theorem am_st1_ok {g : Value → Value} (hg : ∀ v, (g v).category = v.category) {ls : Array Slot} {nL : Nat} {lo lo' : am_L} {i : Nat} {v : Value} (h : am_LR g ls nL lo) (hs : am_st1 lo i v = some lo') (hc : v.category = 1) :
    i < nL ∧ lo'.length ≤ nL ∧ ∀ q ∈ am_lp g 0 lo', q ∈ (i, g v) :: (am_lp g 0 lo).filter (fun q => !(q.1 == i) && !(q.1 + 1 == i && q.2.category == 2)) := by
  unfold am_st1 at hs
  split at hs
  · cases hs
  · rename_i x hx
    have hlt := (List.getElem?_eq_some_iff.mp hx).1
    cases hb : am_c2 lo i <;> rw [hb] at hs <;> simp only [cond_true, cond_false] at hs
    · cases hs
      refine ⟨Nat.lt_of_lt_of_le hlt h.1, by rw [List.length_set]; exact h.1, fun q hq => ?_⟩
      obtain ⟨-, w, h2, h3⟩ := am_lp_mem.mp hq
      rw [Nat.sub_zero] at h2
      by_cases e : i = q.1
      · rw [← e, List.getElem?_set_self hlt] at h2
        cases h2
        exact List.mem_cons.mpr (Or.inl (Prod.ext e.symm h3))
      · rw [List.getElem?_set_ne e] at h2
        refine List.mem_cons_of_mem _ (List.mem_filter.mpr ⟨am_lp_mem.mpr ⟨Nat.zero_le _, w, h2, h3⟩, ?_⟩)
        have h4 : (q.1 == i) = false := by simp; omega
        rw [h4]
        by_cases e2 : q.1 + 1 = i
        · have := am_c2_f hb h2 e2
          rw [h3, hg, this]; simp
        · simp [e2]
    · cases hs
theorem am_st2_ok {g : Value → Value} (hg : ∀ v, (g v).category = v.category) {ls : Array Slot} {nL : Nat} {lo lo' : am_L} {i : Nat} {v : Value} (h : am_LR g ls nL lo) (hs : am_st2 lo i v = some lo') :
    i + 1 < nL ∧ lo'.length ≤ nL ∧ ∀ q ∈ am_lp g 0 lo', q ∈ (i, g v) :: (am_lp g 0 lo).filter (fun q => !(q.1 == i) && (!(q.1 == i + 1) && !(q.1 + 1 == i && q.2.category == 2))) := by
  unfold am_st2 at hs
  split at hs
  · cases hs
  · rename_i x hx
    have hlt := (List.getElem?_eq_some_iff.mp hx).1
    cases hb : am_c2 lo i <;> rw [hb] at hs <;> simp only [cond_true, cond_false] at hs
    · cases hs
      refine ⟨Nat.lt_of_lt_of_le hlt h.1, by rw [List.length_set, List.length_set]; exact h.1, fun q hq => ?_⟩
      obtain ⟨-, w, h2, h3⟩ := am_lp_mem.mp hq
      rw [Nat.sub_zero] at h2
      by_cases e1 : i + 1 = q.1
      · rw [← e1, List.getElem?_set_self (by rw [List.length_set]; exact hlt)] at h2
        cases h2
      rw [List.getElem?_set_ne e1] at h2
      by_cases e : i = q.1
      · rw [← e, List.getElem?_set_self (by omega)] at h2
        cases h2
        exact List.mem_cons.mpr (Or.inl (Prod.ext e.symm h3))
      · rw [List.getElem?_set_ne e] at h2
        refine List.mem_cons_of_mem _ (List.mem_filter.mpr ⟨am_lp_mem.mpr ⟨Nat.zero_le _, w, h2, h3⟩, ?_⟩)
        have h4 : (q.1 == i) = false := by simp; omega
        have h5 : (q.1 == i + 1) = false := by simp; omega
        rw [h4, h5]
        by_cases e2 : q.1 + 1 = i
        · have := am_c2_f hb h2 e2
          rw [h3, hg, this]; simp
        · simp [e2]
    · cases hs
/-- a method's locals at its entry -/
def am_lo : List Value → am_L
  | [] => []
  | .long x :: t => some (.long x) :: none :: am_lo t
  | .double x :: t => some (.double x) :: none :: am_lo t
  | v :: t => some v :: am_lo t
def am_lo0 (vs : List Value) (n : Nat) : am_L := am_lo vs ++ List.replicate (n - (am_lo vs).length) none
