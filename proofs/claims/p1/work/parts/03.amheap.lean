/-! THE PLAIN MACHINE: fields and arrays. -/
def am_tys : List FieldType := [.int, .boolean, .long, .double, .object "TraceAligner$Trace", .array .int]
/-- a field's row: pool index, class, place, kind (0 int, 1 boolean, 2 reference, 3 long, 4 double), final -/
abbrev am_FR : Type := Nat × Nat × Nat × Nat × Bool
def am_kd : Nat → FieldType → Bool
  | 0, .int => true
  | 1, .boolean => true
  | 2, .object _ => true
  | 2, .array _ => true
  | 3, .long => true
  | 4, .double => true
  | 9, _ => true
  | _, _ => false
def am_fit : Nat → Value → Bool
  | 0, .int _ => true
  | 1, .int x => bif x == 0 then true else x == 1
  | 2, .ref _ => true
  | 2, .null => true
  | 3, .long _ => true
  | 4, .double _ => true
  | _, _ => false
def am_okC (big : List Jvm.Cond) (q : vw_C) : Prop := (∀ w ∈ u_ws q.1 q.2.1 q.2.2, w ∈ big) ∧ (∀ a, a < q.2.2 → ∀ b, b < q.2.2 → a ≠ b → (q.2.1 a).2.1 ≠ (q.2.1 b).2.1) ∧ ∃ ty0 : Nat → FieldType, ∀ k, k < q.2.2 → parseFieldDescriptor (q.2.1 k).2.2.1 = some (ty0 k)
def am_okF (own : String) (cl : List vw_C) (big : List Jvm.Cond) (q : am_FR) : Prop :=
  ∃ (C : String) (T : u_T) (N : Nat), cl[q.2.1]? = some (C, T, N) ∧ am_okC big (C, T, N) ∧ q.2.2.1 < N ∧ Jvm.Cond.fieldLink own q.1 (T q.2.2.1).1 (T q.2.2.1).2.1 (T q.2.2.1).2.2.1 ∈ big ∧
    (∃ ty, parseFieldDescriptor (T q.2.2.1).2.2.1 = some ty ∧ am_kd q.2.2.2.1 ty = true) ∧ (q.2.2.2.1 = 9 ∨ (T q.2.2.1).2.2.2 = q.2.2.2.2) ∧ (q.2.2.2.2 = true → (T q.2.2.1).1 = own)
theorem am_fit_ok {kd sb base : Nat} {ty : FieldType} {v : Value} (h : am_kd kd ty = true) (hv : am_fit kd v = true) : narrow ty (am_cv sb base v) = am_cv sb base v ∧ fits ty (am_cv sb base v) = true := by
  unfold am_kd at h
  split at h
  all_goals first
    | (cases h; done)
    | (cases v <;> first
        | (exact ⟨rfl, rfl⟩)
        | (rename_i x
           obtain rfl | rfl : x = 0 ∨ x = 1 := by simpa [am_fit, Bool.cond_eq_ite, Bool.or_eq_true] using hv
           · exact ⟨rfl, rfl⟩
           · exact ⟨rfl, rfl⟩)
        | (exact absurd hv (by simp [am_fit])))
def am_rv (f : Nat → Option Nat) (k : Nat) : Value := match f k with
  | none => .null
  | some a => .ref a
/-- what an array of kind t gives -/
def am_aget : Instr → Nat → vp_A → Nat → Option Value
  | .iaload, 0, (_, .inl f), k => some (.int (f k))
  | .iaload, 99, (_, .inl f), k => some (.int (f k))
  | .baload, 1, (_, .inl f), k => bif am_on 1 then some (.int (f k)) else none
  | .laload, 2, (_, .inr (.inl f)), k => bif am_on 2 then some (.long (f k)) else none
  | .daload, 3, (_, .inr (.inr (.inr (.inl f)))), k => bif am_on 3 then some (.double (f k)) else none
  | .aaload, 4, (_, .inr (.inr (.inr (.inr f)))), k => some (am_rv f k)
  | .aaload, 5, (_, .inr (.inr (.inr (.inr f)))), k => some (am_rv f k)
  | _, _, _, _ => none
def am_aset : Instr → Nat → vp_A → Nat → Value → Option vp_A
  | .iastore, 0, (n, .inl f), k, .int y => some (n, .inl (upd f k y))
  | .bastore, 1, (n, .inl f), k, .int y => bif am_fit 1 (.int y) && am_on 1 then some (n, .inl (upd f k y)) else none
  | .lastore, 2, (n, .inr (.inl f)), k, .long y => bif am_on 2 then some (n, .inr (.inl (vp_updL f k y))) else none
  | .dastore, 3, (n, .inr (.inr (.inr (.inl f)))), k, .double y => bif am_on 3 then some (n, .inr (.inr (.inr (.inl (vf_upd f k y))))) else none
  | _, _, _, _, _ => none
section AMH
variable {D : va_G} {cl : List vw_C} {cA : Nat → ClassId} {sb base : Nat} {p : Program} {l : Launch} {e : Env} {R : Room} {s : State} {m : MethodId} {args : Array Value} {below : List Frame} {meth : Method} {c : Code} {nL : Nat} {Q : State → Prop}
variable {cc : ByteArray} {own : String} {big : List Jvm.Cond} {r : am_Row} {lo lo' : am_L} {st st' : List Value} {h : am_H} {rc rs : Nat} {v : Value}
theorem am_get_ok (hx : p.tables.exec = Jvm.exec) (hb : c.code = cc) (hown : s.vm.findClass own = some m.cls) (hts : ∀ w ∈ big, w.before args s = true) (hK : am_K D cl cA am_tys s) (hr : am_okRow own cc big r) {q : am_FR} (hq : am_okF own cl big q) (hi : r.2.1 = .getfield q.1)
    {a ci : Nat} {vs : List Value} (ha : h[a]? = some (.inr (ci, vs))) (hci : ci = q.2.1) (hv : vs[q.2.2.1]? = some v)
    (k : am_W D cl cA sb base p l e R s m args below meth c nL Q r.2.2.1 lo (v :: st) h rc rs) : am_W D cl cA sb base p l e R s m args below meth c nL Q r.1 lo (.ref a :: st) h rc rs := by
  obtain ⟨pc, i, nx, tg, kv⟩ := r
  obtain ⟨hd, hn, hk⟩ := hr
  obtain ⟨fi0, fci, fk, fkd, ffin⟩ := q
  obtain ⟨C, T, N, hc, ⟨hin, -⟩, hkN, hlink, -⟩ := hq
  dsimp only at hd hn hi hc hkN hlink hci hv k ⊢
  subst hi hn hci
  intro H locs cells slots ls hR hS h1 h2 hl
  have K := k H locs cells slots ls hR hS h1 h2 hl
  obtain ⟨r', e1, cell, q1, q2, q3, q4⟩ := hR.2.2.2 a _ ha
  have hr' : r' = (C, T, N) := Option.some.inj (e1.symm.trans hc)
  subst hr'
  obtain ⟨hSl, hfc, kC, hkC, hkind⟩ := hK.1 ci _ hc
  obtain ⟨cf, kf, fi, f, hfo, hsl⟩ := hSl fk hkN
  refine W.getf hx hb hown (hts _ hlink) hfo (u_facts hfc hkC (u_lays hts hin hkN) hfo).1 q1 (by rw [q3]; exact fun h => by cases h) (v := am_cv sb base v) ?_ rfl rfl hd K
  rw [hsl, q4 fk hkN]
  simp [vp_V, hv]
theorem am_put_ok (hx : p.tables.exec = Jvm.exec) (hb : c.code = cc) (hown : s.vm.findClass own = some m.cls) (hts : ∀ w ∈ big, w.before args s = true) (hK : am_K D cl cA am_tys s) (hr : am_okRow own cc big r) {q : am_FR} (hq : am_okF own cl big q) (hi : r.2.1 = .putfield q.1)
    (hfin : q.2.2.2.2 = true → meth.name = "<init>") {a ci : Nat} {vs : List Value} (ha : h[a]? = some (.inr (ci, vs))) (hci : ci = q.2.1) (hv : q.2.2.1 < vs.length) (hfit : am_fit q.2.2.2.1 v = true)
    (k : am_W D cl cA sb base p l e R s m args below meth c nL Q r.2.2.1 lo st (h.set a (.inr (ci, vs.set q.2.2.1 v))) rc rs) : am_W D cl cA sb base p l e R s m args below meth c nL Q r.1 lo (v :: .ref a :: st) h rc rs := by
  obtain ⟨pc, i, nx, tg, kv⟩ := r
  obtain ⟨hd, hn, hk⟩ := hr
  obtain ⟨fi0, fci, fk, fkd, ffin⟩ := q
  obtain ⟨C, T, N, hc, ⟨hin, hnm, ty0, hty⟩, hkN, hlink, ⟨ty, hpd, hkd⟩, hff, hfo1⟩ := hq
  dsimp only at hd hn hi hc hkN hlink hci hv k hfin hfit hpd hkd hff hfo1 ⊢
  subst hi hn hci
  have hff : (T fk).2.2.2 = ffin := hff.resolve_left (by rintro rfl; exact absurd hfit (by simp [am_fit]))
  intro H locs cells slots ls hR hS h1 h2 hl
  have a0 : a ≠ 0 := by
    rintro rfl
    obtain ⟨x, hx⟩ := hR.2.2.1
    rw [hx] at ha
    cases ha
  have aB : base ≤ am_ad sb base a := by
    obtain ⟨j, rfl⟩ : ∃ j, a = j + 1 := ⟨a - 1, by omega⟩
    exact am_ad_ge
  obtain ⟨r', e1, cell, q1, q2, q3, q4⟩ := hR.2.2.2 a _ ha
  have hr' : r' = (C, T, N) := Option.some.inj (e1.symm.trans hc)
  subst hr'
  obtain ⟨hSl, hfc, kC, hkC, hkind⟩ := hK.1 ci _ hc
  obtain ⟨cf, kf, fi, f, hfo, hsl⟩ := hSl fk hkN
  obtain ⟨nw, ft⟩ := am_fit_ok (sb := sb) (base := base) hkd hfit
  have hap : ∀ x y, x < N → y < N → x ≠ y → (D.2 ci) x ≠ (D.2 ci) y := by
    intro x y hx hy hne
    obtain ⟨_, _, _, fa, hia, ea⟩ := hSl x hx
    obtain ⟨_, _, _, fb, hib, eb⟩ := hSl y hy
    rw [← ea, ← eb]
    refine u_apart (u_lays hts hin hx) (u_lays hts hin hy) hia hib ?_
    rw [(State.fieldFound?_type hia (hty x hx)).1, (State.fieldFound?_type hib (hty y hy)).1]
    exact hnm x hx y hy hne
  have hst := (u_facts hfc hkC (u_lays hts hin hkN) hfo).1
  have hlay := hts _ (hin _ (u_in_lay hkN))
  unfold u_lay at hlay
  have next : ∀ H' : Heap, H'[am_ad sb base a]? = some (cell.setSlot f.slot (am_cv sb base v)) → H'.size = H.size → (∀ q, q ≠ am_ad sb base a → H'[q]? = H[q]?) →
      W p l e R s m args below meth c H' (locs ++ [⟨am_ad sb base a, f.slot⟩]) cells slots Q (F0 m (pc + 3) ls (st.map (am_cv sb base))) := by
    intro H' e1 e2 e3
    rw [hsl] at e1 ⊢
    refine k H' _ cells slots ls (hR.set ha e2 e3 a0 ⟨_, hc, t_OB.to (V := updV (vp_V (vs.map (am_cv sb base))) fk (am_cv sb base v)) ⟨_, e1, q2, q3, t_set q4 hap hkN _⟩ (fun j _ => ?_)⟩) (hS.put e2 e3 aB) h1 h2 hl
    rw [vp_updV_set (by rw [List.length_map]; exact hv), List.map_set]
  cases hfb : ffin with
  | false =>
    rw [hfb] at hff
    rw [if_neg (by rw [hff]; decide)] at hlay
    have h6 := u_store hfc hkC hkind hlay hfo hpd nw ft
    exact W.putK hx hb (f := f) ⟨hown, hts _ hlink, ⟨_, _, _, hfo⟩, hst⟩ (by rw [q2]; exact h6) q1 q3 (by rw [hsl]; exact k2_hasslot (q4 fk hkN)) rfl rfl hd next
  | true =>
    rw [hfb] at hff
    rw [if_pos hff] at hlay
    have hcf : m.cls = cf := by
      obtain ⟨_, _, c', _, _, _, -, -, hf', -, -, -, hown2, -⟩ := Cond.laysFinal_spec hlay
      have e1 : c' = cf := by have := hfo.symm.trans hf'; simp at this; exact this.1.symm
      rw [hfo1 hfb] at hown2
      rw [← e1]; exact Option.some.inj (hown.symm.trans hown2)
    have h6 := u_fits hfc hkC hkind (Or.inr hlay) hfo hpd nw ft
    exact W.putFinK hx hb hown (hts _ hlink) hfo hst hcf (hfin hfb) (by rw [q2]; exact h6) q1 q3 (by rw [hsl]; exact k2_hasslot (q4 fk hkN)) rfl rfl hd next
theorem am_rv_cv (f : Nat → Option Nat) (k : Nat) : am_cv sb base (am_rv f k) = va_rf ((f k).map (am_ad sb base)) := by
  unfold am_rv
  cases f k <;> rfl
theorem am_at_i {U : State} {H : Heap} {a t n : Nat} {f : Nat → Int32} (hA : am_at D cl cA sb base U H a (.inl (t, n, .inl f))) (ht : t ≠ 99 ∧ t ≠ 98) : H[a]? = some (arrV (cA t) n (fun j => .int (f j))) := (hA.2 ht.1).resolve_left fun z => ht.2 z.1
theorem am_at_l {U : State} {H : Heap} {a t n : Nat} {f : Nat → Int64} (hA : am_at D cl cA sb base U H a (.inl (t, n, .inr (.inl f)))) (ht : t ≠ 99 ∧ t ≠ 98) : H[a]? = some (arrV (cA t) n (fun j => .long (f j))) := (hA.2 ht.1).resolve_left fun z => ht.2 z.1
theorem am_at_d {U : State} {H : Heap} {a t n : Nat} {f : Nat → UInt64} (hA : am_at D cl cA sb base U H a (.inl (t, n, .inr (.inr (.inr (.inl f)))))) (ht : t ≠ 99 ∧ t ≠ 98) : H[a]? = some (arrV (cA t) n (fun j => .double (f j))) := (hA.2 ht.1).resolve_left fun z => ht.2 z.1
theorem am_at_q {U : State} {H : Heap} {a t n : Nat} {f : Nat → Option Nat} (hA : am_at D cl cA sb base U H a (.inl (t, n, .inr (.inr (.inr (.inr f)))))) (ht : t ≠ 99 ∧ t ≠ 98) : H[a]? = some (arrV (cA t) n (fun j => va_rf ((f j).map (am_ad sb base)))) := (hA.2 ht.1).resolve_left fun z => ht.2 z.1
theorem am_mk_i {U : State} {H : Heap} {a t n : Nat} {f : Nat → Int32} (ht : t ≠ 99) (e : H[a]? = some (arrV (cA t) n (fun j => .int (f j)))) : am_at D cl cA sb base U H a (.inl (t, n, .inl f)) := ⟨fun q => absurd q ht, fun _ => Or.inr e⟩
theorem am_mk_l {U : State} {H : Heap} {a t n : Nat} {f : Nat → Int64} (ht : t ≠ 99) (e : H[a]? = some (arrV (cA t) n (fun j => .long (f j)))) : am_at D cl cA sb base U H a (.inl (t, n, .inr (.inl f))) := ⟨fun q => absurd q ht, fun _ => Or.inr e⟩
theorem am_mk_d {U : State} {H : Heap} {a t n : Nat} {f : Nat → UInt64} (ht : t ≠ 99) (e : H[a]? = some (arrV (cA t) n (fun j => .double (f j)))) : am_at D cl cA sb base U H a (.inl (t, n, .inr (.inr (.inr (.inl f))))) := ⟨fun q => absurd q ht, fun _ => Or.inr e⟩
theorem am_mk_q {U : State} {H : Heap} {a t n : Nat} {f : Nat → Option Nat} (ht : t ≠ 99) (e : H[a]? = some (arrV (cA t) n (fun j => va_rf ((f j).map (am_ad sb base))))) : am_at D cl cA sb base U H a (.inl (t, n, .inr (.inr (.inr (.inr f))))) := ⟨fun q => absurd q ht, fun _ => Or.inr e⟩
theorem am_ald_ok (hx : p.tables.exec = Jvm.exec) (hb : c.code = cc) (hK : am_K D cl cA am_tys s) (hr : am_okRow own cc big r) {a t : Nat} {x : vp_A} {j : Int32} (ha : h[a]? = some (.inl (t, x))) (hin : vp_in j x.1) (hv : am_aget r.2.1 t x j.toNatClampNeg = some v)
    (k : am_W D cl cA sb base p l e R s m args below meth c nL Q r.2.2.1 lo (v :: st) h rc rs) : am_W D cl cA sb base p l e R s m args below meth c nL Q r.1 lo (.int j :: .ref a :: st) h rc rs := by
  obtain ⟨pc, i, nx, tg, kv⟩ := r
  obtain ⟨hd, hn, hk⟩ := hr
  dsimp only at hd hn hv k ⊢
  subst hn
  intro H locs cells slots ls hR hS h1 h2 hl
  have K := k H locs cells slots ls hR hS h1 h2 hl
  have hA := hR.2.2.2 a _ ha
  clear k
  unfold am_aget at hv
  split at hv
  · rename_i n f
    cases hv
    have hlt : j.toNatClampNeg < n := Nat.not_le.mp fun q => hin (Or.inr q)
    exact W.iald (v := .int (f j.toNatClampNeg)) hx hb (am_at_i hA (by decide)) ((hK.2.1 0 .int rfl rfl).1 n (fun j => .int (f j))) (fun q => by cases q) (by rw [arrV_size]; exact hin) (by rw [arrV_read _ _ hlt]) rfl rfl hd K
  · rename_i n f
    cases hv
    have hlt : j.toNatClampNeg < n := Nat.not_le.mp fun q => hin (Or.inr q)
    obtain ⟨scr, g1, g2, g3, g4, xs, g5, g6⟩ := hA.1 rfl
    dsimp only at g4 g5 g6
    cases g5
    exact W.iald (v := .int (f j.toNatClampNeg)) hx hb g1 g2 g3 (by rw [g4]; exact hin) (g6 _ hlt) rfl rfl hd K
  · rename_i n f
    cases ho : am_on 1 <;> rw [ho] at hv <;> simp only [cond_true, cond_false] at hv
    · cases hv
    cases hv
    have hlt : j.toNatClampNeg < n := Nat.not_le.mp fun q => hin (Or.inr q)
    exact W.zald (v := .int (f j.toNatClampNeg)) hx hb (am_at_i hA (by decide)) ((hK.2.1 1 .boolean rfl ho).1 n (fun j => .int (f j))) (fun q => by cases q) (by rw [arrV_size]; exact hin) (by rw [arrV_read _ _ hlt]) rfl rfl hd K
  · rename_i n f
    cases ho : am_on 2 <;> rw [ho] at hv <;> simp only [cond_true, cond_false] at hv
    · cases hv
    cases hv
    have hlt : j.toNatClampNeg < n := Nat.not_le.mp fun q => hin (Or.inr q)
    exact W.lald (v := .long (f j.toNatClampNeg)) hx hb (am_at_l hA (by decide)) ((hK.2.1 2 .long rfl ho).1 n (fun j => .long (f j))) (fun q => by cases q) (by rw [arrV_size]; exact hin) (by rw [arrV_read _ _ hlt]) rfl rfl hd K
  · rename_i n f
    cases ho : am_on 3 <;> rw [ho] at hv <;> simp only [cond_true, cond_false] at hv
    · cases hv
    cases hv
    have hlt : j.toNatClampNeg < n := Nat.not_le.mp fun q => hin (Or.inr q)
    exact W.dald (v := .double (f j.toNatClampNeg)) hx hb (am_at_d hA (by decide)) ((hK.2.1 3 .double rfl ho).1 n (fun j => .double (f j))) (fun q => by cases q) (by rw [arrV_size]; exact hin) (by rw [arrV_read _ _ hlt]) rfl rfl hd K
  · rename_i n f
    cases hv
    have hlt : j.toNatClampNeg < n := Nat.not_le.mp fun q => hin (Or.inr q)
    exact W.aald (v := am_cv sb base (am_rv f j.toNatClampNeg)) hx hb (am_at_q hA (by decide)) ((hK.2.1 4 _ rfl rfl).1 n (fun j => va_rf ((f j).map (am_ad sb base)))) rfl (fun q => by cases q) (by rw [arrV_size]; exact hin) (by show (arrV _ _ _).slots[_]? = _; rw [arrV_read _ _ hlt, am_rv_cv]) rfl rfl hd K
  · rename_i n f
    cases hv
    have hlt : j.toNatClampNeg < n := Nat.not_le.mp fun q => hin (Or.inr q)
    exact W.aald (v := am_cv sb base (am_rv f j.toNatClampNeg)) hx hb (am_at_q hA (by decide)) ((hK.2.1 5 _ rfl rfl).1 n (fun j => va_rf ((f j).map (am_ad sb base)))) rfl (fun q => by cases q) (by rw [arrV_size]; exact hin) (by show (arrV _ _ _).slots[_]? = _; rw [arrV_read _ _ hlt, am_rv_cv]) rfl rfl hd K
  · cases hv
theorem am_ast_ok (hx : p.tables.exec = Jvm.exec) (hb : c.code = cc) (hK : am_K D cl cA am_tys s) (hr : am_okRow own cc big r) {a t : Nat} {x y : vp_A} {j : Int32} (ha : h[a]? = some (.inl (t, x))) (hin : vp_in j x.1) (hv : am_aset r.2.1 t x j.toNatClampNeg v = some y)
    (k : am_W D cl cA sb base p l e R s m args below meth c nL Q r.2.2.1 lo st (h.set a (.inl (t, y))) rc rs) : am_W D cl cA sb base p l e R s m args below meth c nL Q r.1 lo (v :: .int j :: .ref a :: st) h rc rs := by
  obtain ⟨pc, i, nx, tg, kv⟩ := r
  obtain ⟨hd, hn, hk⟩ := hr
  dsimp only at hd hn hv k ⊢
  subst hn
  intro H locs cells slots ls hR hS h1 h2 hl
  have hA := hR.2.2.2 a _ ha
  have a0 : t ≠ 99 → a ≠ 0 := by
    rintro ht rfl
    obtain ⟨x, hx⟩ := hR.2.2.1
    rw [hx] at ha
    cases ha
    exact ht rfl
  have aB : t ≠ 99 → base ≤ am_ad sb base a := by
    intro ht
    obtain ⟨j, rfl⟩ : ∃ j, a = j + 1 := ⟨a - 1, by have := a0 ht; omega⟩
    exact am_ad_ge
  have K := fun H1 l1 q1 q2 => k H1 l1 cells slots ls q1 q2 h1 h2 hl
  clear k
  unfold am_aset at hv
  split at hv
  · rename_i n f w
    cases hv
    refine W.iast hx hb (am_at_i hA (by decide)) ((hK.2.1 0 .int rfl rfl).1 n (fun j => .int (f j))) (fun q => by cases q) (by rw [arrV_size]; exact hin) rfl rfl hd fun H1 e z oq => ?_
    refine K H1 _ (hR.set ha z oq (a0 (by decide)) (am_mk_i (by decide) ?_)) (hS.put z oq (aB (by decide)))
    rw [e]
    rw [arrV_store]
    congr 2
    funext q
    by_cases hq : q = j.toNatClampNeg
    · subst hq
      simp [updV, upd]
    · simp [updV, upd, hq]
  · rename_i n f w
    cases ef0 : (am_fit 1 (.int w) && am_on 1) <;> rw [ef0] at hv <;> simp only [cond_true, cond_false] at hv
    · cases hv
    simp only [Bool.and_eq_true] at ef0
    obtain ⟨ef, ho⟩ := ef0
    cases hv
    refine W.zast hx hb (am_at_i hA (by decide)) ((hK.2.1 1 .boolean rfl ho).1 n (fun j => .int (f j))) (fun q => by cases q) (by rw [arrV_size]; exact hin) rfl rfl hd fun H1 e z oq => ?_
    refine K H1 _ (hR.set ha z oq (a0 (by decide)) (am_mk_i (by decide) ?_)) (hS.put z oq (aB (by decide)))
    rw [e]
    rw [arrV_store]
    congr 2
    funext q
    by_cases hq : q = j.toNatClampNeg
    · subst hq
      have := (am_fit_ok (sb := sb) (base := base) (kd := 1) (ty := .boolean) rfl ef).1
      simp only [am_cv] at this
      simp [updV, upd, this]
    · simp [updV, upd, hq]
  · rename_i n f w
    cases ho : am_on 2 <;> rw [ho] at hv <;> simp only [cond_true, cond_false] at hv
    · cases hv
    cases hv
    refine W.last hx hb (am_at_l hA (by decide)) ((hK.2.1 2 .long rfl ho).1 n (fun j => .long (f j))) (fun q => by cases q) (by rw [arrV_size]; exact hin) rfl rfl hd fun H1 e z oq => ?_
    refine K H1 _ (hR.set ha z oq (a0 (by decide)) (am_mk_l (by decide) ?_)) (hS.put z oq (aB (by decide)))
    rw [e]
    rw [arrV_store]
    congr 2
    funext q
    by_cases hq : q = j.toNatClampNeg
    · subst hq
      simp [updV, vp_updL]
    · simp [updV, vp_updL, hq]
  · rename_i n f w
    cases ho : am_on 3 <;> rw [ho] at hv <;> simp only [cond_true, cond_false] at hv
    · cases hv
    cases hv
    refine W.dast hx hb (am_at_d hA (by decide)) ((hK.2.1 3 .double rfl ho).1 n (fun j => .double (f j))) (fun q => by cases q) (by rw [arrV_size]; exact hin) rfl rfl hd fun H1 e z oq => ?_
    refine K H1 _ (hR.set ha z oq (a0 (by decide)) (am_mk_d (by decide) ?_)) (hS.put z oq (aB (by decide)))
    rw [e]
    rw [arrV_store]
    congr 2
    funext q
    by_cases hq : q = j.toNatClampNeg
    · subst hq
      simp [updV, vf_upd]
    · simp [updV, vf_upd, hq]
  · cases hv
theorem am_alen_ok (hx : p.tables.exec = Jvm.exec) (hb : c.code = cc) (hK : am_K D cl cA am_tys s) (hr : am_okRow own cc big r) {a t : Nat} {x : vp_A} (hi : r.2.1 = .arraylength) (ha : h[a]? = some (.inl (t, x))) (ht : (t < 6 ∧ am_on t = true) ∨ t = 99)
    (k : am_W D cl cA sb base p l e R s m args below meth c nL Q r.2.2.1 lo (.int (nI x.1) :: st) h rc rs) : am_W D cl cA sb base p l e R s m args below meth c nL Q r.1 lo (.ref a :: st) h rc rs := by
  obtain ⟨pc, i, nx, tg, kv⟩ := r
  obtain ⟨hd, hn, hk⟩ := hr
  dsimp only at hd hn hi k ⊢
  subst hi hn
  intro H locs cells slots ls hR hS h1 h2 hl
  have K := k H locs cells slots ls hR hS h1 h2 hl
  have hA := hR.2.2.2 a _ ha
  by_cases e : t = 99
  · obtain ⟨scr, g1, g2, g3, g4, -⟩ := hA.1 e
    exact W.alen hx hb g1 g2 (n := nI x.1) (by rw [g4]; rfl) rfl rfl hd K
  · obtain ⟨ht6, ho⟩ : t < 6 ∧ am_on t = true := ht.resolve_right e
    have hA := (hA.2 e).resolve_left fun z => by omega
    obtain ⟨ty, hty⟩ : ∃ ty, am_tys[t]? = some ty := ⟨am_tys[t]'ht6, List.getElem?_eq_getElem ht6⟩
    obtain ⟨n, f | f | f | f | f⟩ := x
    · exact W.alen (n := nI n) hx hb hA ((hK.2.1 t _ hty ho).1 n (fun j => .int (f j))) (by show (arrV _ _ _).slots.size.toInt32 = _; rw [arrV_size]; rfl) rfl rfl hd K
    · exact W.alen (n := nI n) hx hb hA ((hK.2.1 t _ hty ho).1 n (fun j => .long (f j))) (by show (arrV _ _ _).slots.size.toInt32 = _; rw [arrV_size]; rfl) rfl rfl hd K
    · exact W.alen (n := nI n) hx hb hA ((hK.2.1 t _ hty ho).1 n (fun j => .float (f j))) (by show (arrV _ _ _).slots.size.toInt32 = _; rw [arrV_size]; rfl) rfl rfl hd K
    · exact W.alen (n := nI n) hx hb hA ((hK.2.1 t _ hty ho).1 n (fun j => .double (f j))) (by show (arrV _ _ _).slots.size.toInt32 = _; rw [arrV_size]; rfl) rfl rfl hd K
    · exact W.alen (n := nI n) hx hb hA ((hK.2.1 t _ hty ho).1 n (fun j => va_rf ((f j).map (am_ad sb base)))) (by show (arrV _ _ _).slots.size.toInt32 = _; rw [arrV_size]; rfl) rfl rfl hd K
end AMH
