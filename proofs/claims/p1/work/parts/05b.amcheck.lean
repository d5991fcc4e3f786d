/-! THE PLAIN MACHINE's tables, as one program checks them: each row with its words' places -/
def am_has (big : List Jvm.Cond) (p : Nat) (w : Jvm.Cond) : Bool := decide (big[p]? = some w)
theorem am_has_in {big : List Jvm.Cond} {p : Nat} {w : Jvm.Cond} (h : am_has big p w = true) : w ∈ big := List.mem_of_getElem? (of_decide_eq_true h)
def am_all2 {α β : Type} (f : α → β → Bool) : List α → List β → Bool
  | [], [] => true
  | a :: s, b :: t => f a b && am_all2 f s t
  | _, _ => false
theorem am_all2_of {α β : Type} {f : α → β → Bool} : ∀ {s : List α} {t : List β}, am_all2 f s t = true → ∀ a ∈ s, ∃ b, f a b = true
  | [], _, _, _, h => nomatch h
  | a :: s, [], h, _, _ => by simp [am_all2] at h
  | a :: s, b :: t, h, x, hx => by
    simp only [am_all2, Bool.and_eq_true] at h
    rcases List.mem_cons.mp hx with rfl | hx
    · exact ⟨b, h.1⟩
    · exact am_all2_of h.2 x hx
def am_okFb (own : String) (cl : List vw_C) (big : List Jvm.Cond) (q : am_FR) (p : Nat) : Bool := match cl[q.2.1]? with
  | none => false
  | some r => decide (q.2.2.1 < r.2.2) && am_has big p (Jvm.Cond.fieldLink own q.1 (r.2.1 q.2.2.1).1 (r.2.1 q.2.2.1).2.1 (r.2.1 q.2.2.1).2.2.1) &&
    (match parseFieldDescriptor (r.2.1 q.2.2.1).2.2.1 with | some ty => am_kd q.2.2.2.1 ty | none => false) && decide (q.2.2.2.1 = 9 ∨ (r.2.1 q.2.2.1).2.2.2 = q.2.2.2.2) && (!q.2.2.2.2 || decide ((r.2.1 q.2.2.1).1 = own))
def am_okCb (big : List Jvm.Cond) (q : vw_C) (ps : List Nat) : Bool := am_all2 (fun w p => am_has big p w) (u_ws q.1 q.2.1 q.2.2) ps && (List.range q.2.2).all (fun a => (List.range q.2.2).all fun b => decide (a = b) || decide ((q.2.1 a).2.1 ≠ (q.2.1 b).2.1)) &&
  (List.range q.2.2).all (fun k => (parseFieldDescriptor (q.2.1 k).2.2.1).isSome)
theorem am_okC_of {big : List Jvm.Cond} {q : vw_C} {ps : List Nat} (h : am_okCb big q ps = true) : am_okC big q := by
  unfold am_okCb at h
  rw [Bool.and_eq_true, Bool.and_eq_true] at h
  obtain ⟨⟨h1, h2⟩, h3⟩ := h
  simp only [List.all_eq_true, decide_eq_true_eq, List.mem_range, Bool.or_eq_true] at h2 h3
  refine ⟨fun w hw => ?_, fun a ha b hb hne => (h2 a ha b hb).resolve_left hne, fun k => (parseFieldDescriptor (q.2.1 k).2.2.1).getD .int, fun k hk => ?_⟩
  · obtain ⟨p, hp⟩ := am_all2_of h1 w hw
    exact am_has_in hp
  · have := h3 k hk
    cases e : parseFieldDescriptor (q.2.1 k).2.2.1 with
    | none => rw [e] at this; cases this
    | some ty => simp only [e, Option.getD_some]
theorem am_okF_of {own : String} {cl : List vw_C} {big : List Jvm.Cond} (hC : ∀ q ∈ cl, am_okC big q) {FL : List am_FR} {ps : List Nat} (h : am_all2 (am_okFb own cl big) FL ps = true) : ∀ q ∈ FL, am_okF own cl big q := by
  intro q hq
  obtain ⟨p, h1⟩ := am_all2_of h q hq
  unfold am_okFb at h1
  split at h1
  · cases h1
  · rename_i r hr
    simp only [Bool.and_eq_true, decide_eq_true_eq, Bool.or_eq_true, Bool.not_eq_true'] at h1
    obtain ⟨⟨⟨⟨h1, h2⟩, h3⟩, h4⟩, h5⟩ := h1
    refine ⟨r.1, r.2.1, r.2.2, hr, hC r (List.mem_of_getElem? hr), h1, am_has_in h2, ?_, h4, fun hf => h5.resolve_left (by rw [hf]; decide)⟩
    split at h3
    · rename_i ty hty
      exact ⟨ty, hty, h3⟩
    · cases h3
def am_okNb (own : String) (cl : List vw_C) (big : List Jvm.Cond) (q : am_NR) (p : Nat × Nat × Nat) : Bool := match cl[q.2.1]? with
  | none => false
  | some r => am_has big p.1 (Jvm.Cond.classLink own q.1 r.1) && am_has big p.2.1 (Jvm.Cond.instantiable r.1 r.2.2) && am_has big p.2.2 (Jvm.Cond.initialized r.1) &&
    (List.range r.2.2).all (fun k => decide ((parseFieldDescriptor (r.2.1 k).2.2.1).map defaultValue = q.2.2[k]?)) && decide (q.2.2.length = r.2.2) && q.2.2.all (fun v => !(am_isk 1 v) || v == .null)
theorem am_okN_of {own : String} {cl : List vw_C} {big : List Jvm.Cond} (hC : ∀ q ∈ cl, am_okC big q) {NL : List am_NR} {ps : List (Nat × Nat × Nat)} (h : am_all2 (am_okNb own cl big) NL ps = true) : ∀ q ∈ NL, am_okN own cl big q := by
  intro q hq
  obtain ⟨p, h1⟩ := am_all2_of h q hq
  unfold am_okNb at h1
  split at h1
  · cases h1
  · rename_i r hr
    rw [Bool.and_eq_true, Bool.and_eq_true, Bool.and_eq_true, Bool.and_eq_true, Bool.and_eq_true] at h1
    obtain ⟨⟨⟨⟨⟨h1, h2⟩, h3⟩, h4⟩, h5⟩, h6⟩ := h1
    exact ⟨r.1, r.2.1, r.2.2, hr, hC r (List.mem_of_getElem? hr), am_has_in h1, am_has_in h2, am_has_in h3, fun k hk => of_decide_eq_true (List.all_eq_true.mp h4 k (List.mem_range.mpr hk)), of_decide_eq_true h5, h6⟩
/-- a call's row, with the host of a nest mate's -/
def am_okMb (own host : String) (cl : List vw_C) (big : List Jvm.Cond) (q : am_MR) (p : Nat × Nat × Nat × Nat × Nat) : Bool :=
  am_has big p.1 (Jvm.Cond.code q.2.2.2.2.1 q.2.2.2.2.2.1 q.2.2.2.2.2.2.1 q.2.2.2.2.2.2.2) && decide (q.2.2.2.2.1.cls ≠ "java/lang/invoke/MethodHandle") && decide (q.2.2.2.2.1.cls ≠ "java/lang/invoke/VarHandle") && decide ((parseMethodDescriptor q.2.2.2.2.1.desc).map (fun d => d.parameters.length) = some q.2.2.2.1) &&
  am_has big p.2.1 (Jvm.Cond.initialized q.2.2.2.2.1.cls) &&
  match q.2.1 with
  | 0 => am_has big p.2.2.1 (Jvm.Cond.methodLink own q.1 q.2.2.2.2.1) && am_has big p.2.2.2.1 (Jvm.Cond.instanceMethod q.2.2.2.2.1) && am_has big p.2.2.2.2 (Jvm.Cond.selects q.2.2.2.2.1.cls q.2.2.2.2.1 q.2.2.2.2.1) && decide ((cl[q.2.2.1]?).map (·.1) = some q.2.2.2.2.1.cls)
  | 1 => am_has big p.2.2.1 (Jvm.Cond.methodLink own q.1 q.2.2.2.2.1) && am_has big p.2.2.2.1 (Jvm.Cond.static q.2.2.2.2.1)
  | 2 => am_has big p.2.2.1 (Jvm.Cond.methodLink own q.1 q.2.2.2.2.1) && am_has big p.2.2.2.1 (Jvm.Cond.instanceMethod q.2.2.2.2.1) && decide (q.2.2.2.2.1.name = "<init>") && decide (q.2.2.2.2.2.2.2 = none)
  | 4 => decide ((own, q.1, q.2.2.2.2.1, host) ∈ am_nst) && am_has big p.2.2.2.1 (Jvm.Cond.static q.2.2.2.2.1)
  | 5 => decide ((own, q.1, q.2.2.2.2.1, host) ∈ am_nst) && am_has big p.2.2.2.1 (Jvm.Cond.instanceMethod q.2.2.2.2.1) && decide (q.2.2.2.2.1.name = "<init>") && decide (q.2.2.2.2.2.2.2 = none)
  | _ => false
theorem am_okM_of {own : String} (host : String) {cl : List vw_C} {big : List Jvm.Cond} {ML : List am_MR} {ps : List (Nat × Nat × Nat × Nat × Nat)} (h : am_all2 (am_okMb own host cl big) ML ps = true) : ∀ q ∈ ML, am_okM own cl big q := by
  intro q hq
  obtain ⟨p, h1⟩ := am_all2_of h q hq
  obtain ⟨i, kd, ci, n, M⟩ := q
  unfold am_okMb at h1
  rw [Bool.and_eq_true, Bool.and_eq_true, Bool.and_eq_true, Bool.and_eq_true, Bool.and_eq_true] at h1
  obtain ⟨⟨⟨⟨⟨h1, h2⟩, h3⟩, h4⟩, h5⟩, h6⟩ := h1
  refine ⟨am_has_in h1, ⟨of_decide_eq_true h2, of_decide_eq_true h3, of_decide_eq_true h4⟩, am_has_in h5, ?_⟩
  dsimp only at h6 ⊢
  split at h6
  · rw [Bool.and_eq_true, Bool.and_eq_true, Bool.and_eq_true] at h6
    exact ⟨am_has_in h6.1.1.1, am_has_in h6.1.1.2, am_has_in h6.1.2, of_decide_eq_true h6.2⟩
  · rw [Bool.and_eq_true] at h6
    exact ⟨am_has_in h6.1, am_has_in h6.2⟩
  · rw [Bool.and_eq_true, Bool.and_eq_true, Bool.and_eq_true] at h6
    exact ⟨am_has_in h6.1.1.1, am_has_in h6.1.1.2, of_decide_eq_true h6.1.2, of_decide_eq_true h6.2⟩
  · rw [Bool.and_eq_true] at h6
    exact ⟨host, of_decide_eq_true h6.1, am_has_in h6.2⟩
  · rw [Bool.and_eq_true, Bool.and_eq_true, Bool.and_eq_true] at h6
    exact ⟨host, of_decide_eq_true h6.1.1.1, am_has_in h6.1.1.2, of_decide_eq_true h6.1.2, of_decide_eq_true h6.2⟩
  · cases h6
def am_okRowb (own : String) (cc : ByteArray) (big : List Jvm.Cond) (r : am_Row) : Bool := decide (decode cc r.1 = .ok (r.2.1, am_len r.2.1)) && decide (r.2.2.1 = r.1 + am_len r.2.1) && am_okK own big r
theorem am_okRow_of {own : String} {cc : ByteArray} {big : List Jvm.Cond} {tb : List am_Row} (h : tb.all (am_okRowb own cc big) = true) : ∀ r ∈ tb, am_okRow own cc big r := by
  intro r hr
  have h1 := List.all_eq_true.mp h r hr
  unfold am_okRowb at h1
  rw [Bool.and_eq_true, Bool.and_eq_true] at h1
  exact ⟨of_decide_eq_true h1.1.1, of_decide_eq_true h1.1.2, h1.2⟩
theorem am_all_app {α : Type} {f : α → Bool} {a b : List α} (ha : a.all f = true) (hb : b.all f = true) : (a ++ b).all f = true := by rw [List.all_append, ha, hb]; rfl
