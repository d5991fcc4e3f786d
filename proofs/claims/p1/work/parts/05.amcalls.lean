/-! THE PLAIN MACHINE: calls, what is made, ends. -/
def am_fits (R : Room) (f maxL : Nat) : Bool := Nat.ble (f + 1) R.frames && Nat.ble (8 + (maxL + 11) + 36 * f) R.locals
def am_wd (st : List Value) : Nat := (st.map fun v => v.category).sum
theorem am_wd_cv (sb base : Nat) : ∀ st : List Value, ((st.map (am_cv sb base)).map fun v => v.category).sum = am_wd st
  | [] => rfl
  | v :: t => by
    simp only [List.map_cons, List.sum_cons, am_wd, am_cv_cat]
    have := am_wd_cv sb base t
    unfold am_wd at this
    rw [this]
def am_mfind : List am_MR → Nat → Option am_MR
  | [], _ => none
  | q :: t, i => bif Nat.beq q.1 i then some q else am_mfind t i
theorem am_mfind_ok : ∀ {t : List am_MR} {i : Nat} {q : am_MR}, am_mfind t i = some q → q ∈ t ∧ q.1 = i
  | [], _, _, h => nomatch h
  | q0 :: t, i, q, h => by
    unfold am_mfind at h
    cases e : Nat.beq q0.1 i <;> rw [e] at h <;> simp only [cond_true, cond_false] at h
    · have := am_mfind_ok h
      exact ⟨List.mem_cons_of_mem _ this.1, this.2⟩
    · cases h
      exact ⟨List.mem_cons_self, Nat.eq_of_beq_eq_true e⟩
def am_nfind : List am_NR → Nat → Option am_NR
  | [], _ => none
  | q :: t, i => bif Nat.beq q.1 i then some q else am_nfind t i
theorem am_nfind_ok : ∀ {t : List am_NR} {i : Nat} {q : am_NR}, am_nfind t i = some q → q ∈ t ∧ q.1 = i
  | [], _, _, h => nomatch h
  | q0 :: t, i, q, h => by
    unfold am_nfind at h
    cases e : Nat.beq q0.1 i <;> rw [e] at h <;> simp only [cond_true, cond_false] at h
    · have := am_nfind_ok h
      exact ⟨List.mem_cons_of_mem _ this.1, this.2⟩
    · cases h
      exact ⟨List.mem_cons_self, Nat.eq_of_beq_eq_true e⟩
theorem am_blind {D : va_G} {cl : List vw_C} {cA : Nat → ClassId} {sb base : Nat} {h : am_H} {av : List Value} : FrameBlind (va_Pc av (fun U => am_R D cl cA sb base U h U.heap ∧ am_K D cl cA am_tys U)) :=
  fun a U g mk q => ⟨q.1, am_R.moved (u := U) (U := U.calling g mk a) (Vm.Alike.refl U.vm) q.2.1, am_K.moved (u := U) (U := U.calling g mk a) (State.WarmedH.refl U) q.2.2⟩
section AMC
variable {D : va_G} {cl : List vw_C} {cA : Nat → ClassId} {sb base : Nat} {p : Program} {l : Launch} {e : Env} {R : Room} {s : State} {m : MethodId} {args : Array Value} {below : List Frame} {meth : Method} {c : Code} {Q : State → Prop}
/-- behind a call -/
theorem am_back {H : Heap} {locs : List Loc} {cells slots mc ms pc : Nat} {ls : Array Slot} {st0 rest : List Value} {a : Array Value} {Qa : Option Value → am_H → Prop}
    (hr : va_Run p l e R s m args below meth c H locs cells slots mc ms (F0 m pc ls st0) (rest.map (am_cv sb base)) (am_Qc D cl cA sb base Qa a) (fun q => base ≤ q)) (hS : va_S (fun q => base ≤ q) s.heap H locs)
    (kk : ∀ (v : Option Value) (h' : am_H) (H1 : Heap) (locs1 : List Loc), Qa v h' → am_R D cl cA sb base s h' H1 → va_S (fun q => base ≤ q) s.heap H1 locs1 → W p l e R s m args below meth c H1 locs1 (cells + mc) (slots + ms) Q (F0 m (pc + 3) ls ((v.toList ++ rest).map (am_cv sb base)))) :
    W p l e R s m args below meth c H locs cells slots Q (F0 m pc ls st0) := by
  intro T hT X
  obtain ⟨v, st₀, t, T', L, h0, X', hL, e1, e2, ⟨⟨v', h', ev, hQ, hR, hK⟩, hz, hk⟩, st⟩ := hr T hT X
  cases ev
  rw [h0] at hz hk
  have hal : t.vm.Alike s.vm := by rw [← e2]; exact X'.warmed.alike.symm
  obtain ⟨t2, a1, b1⟩ := kk v' h' T'.heap (locs ++ L) hQ (by rw [e1]; exact hR.moved hal)
    ⟨Nat.le_trans hS.1 (by rw [e1]; exact hz), fun q h1 h2 => by rw [e1, hk q (Nat.lt_of_lt_of_le h1 hS.1) h2]; exact hS.2.1 q h1 h2, fun q hq => by
      rcases List.mem_append.mp hq with h | h
      · exact hS.2.2 q h
      · exact hL q h⟩ T' rfl X'
  refine ⟨t2, st t2 ?_, b1⟩
  have e5 : (v'.map (am_cv sb base)).toList ++ rest.map (am_cv sb base) = (v'.toList ++ rest).map (am_cv sb base) := by cases v' <;> rfl
  rw [e5]
  exact a1
end AMC
section CALLS
variable {E : am_E} {R : Room} {Z : am_Z} {pc : Nat} {lo lo' : am_L} {st rest : List Value} {h : am_H} {rc rs : Nat} {r : am_Row}
theorem am_good {G : List vw_C × List Jvm.Cond} {y : MethodName} {cc : ByteArray} {maxL : Nat} {ret : Option FieldType} (hg : ∀ w ∈ G.2, goodWord w = true) (hc : Jvm.Cond.code y cc maxL ret ∈ G.2) : GoodIn G.2 (.code y cc maxL ret :: G.2) := by
  intro w hw
  rcases List.mem_cons.mp hw with rfl | hw
  · exact ⟨hc, good_of_word (hg _ hc)⟩
  · exact ⟨hw, good_of_word (hg _ hw)⟩
theorem am_fits_ok {R : Room} {f maxL : Nat} (h : am_fits R f maxL = true) : f + 1 ≤ R.frames ∧ 8 + (maxL + 11) + 36 * f ≤ R.locals := by
  simp only [am_fits, Bool.and_eq_true] at h
  exact ⟨Nat.le_of_ble_eq_true h.1, Nat.le_of_ble_eq_true h.2⟩
/-- a method of an object -/
theorem am_B.callV {i ci n f dc ds a : Nat} {M : am_M} {as : List Value} {vs : List Value} {Qa : Option Value → am_H → Prop} (hf : am_find E.2.2.2 pc = some r) (hi : r.2.1 = .invokevirtual i) (hm : am_mfind E.2.1.2.2 i = some (i, 0, ci, n, M)) (hc : am_Ct E.1 M f dc ds (.ref a :: as) h Qa)
    (hst : st = as.reverse ++ .ref a :: rest) (hn : as.length = n) (hw : am_wd rest ≤ 8) (hfit : am_fits R f M.2.2.1 = true) (ha : h[a]? = some (.inr (ci, vs))) {rc0 rs0 : Nat} (hrc : rc + dc = rc0) (hrs : rs + ds = rs0) (k : ∀ v h', Qa v h' → am_B E R Z (pc + 3) lo (v.toList ++ rest) h' rc rs) : am_B E R Z pc lo st h rc0 rs0 := by
  subst hrc; subst hrs
  intro ok l D cA sb base p e s m args below meth c C H locs cells slots ls hR hS h1 h2 hl
  obtain ⟨hm0, rfl⟩ := am_find_ok hf
  obtain ⟨hd, -, -⟩ := ok.2.2 r hm0
  obtain ⟨hq, -⟩ := am_mfind_ok hm
  obtain ⟨hcode, hdes, hini, hlink, hinst, hsel, hcl⟩ := ok.2.1.2.2 _ hq
  dsimp only at hcode hdes hini hlink hinst hsel hcl
  have C0 := C
  obtain ⟨hx, hb, hml, hret, hown, hts, hK, hlk, hnm⟩ := C
  rw [hi] at hd
  subst hst
  have hfr := am_fits_ok hfit
  obtain ⟨q, hq1, hq2⟩ : ∃ q, E.1.1[ci]? = some q ∧ q.1 = M.1.cls := by
    cases hz : E.1.1[ci]? with
    | none => rw [hz] at hcl; cases hcl
    | some q => rw [hz] at hcl; exact ⟨q, rfl, Option.some.inj hcl⟩
  obtain ⟨r', hr', cell, g1, g2, g3, -⟩ := hR.2.2.2 a _ ha
  refine am_back (va_runV (C := M.1.cls) (As := as.map (am_cv sb base)) (rest := rest.map (am_cv sb base)) ⟨hx, hb, hml, hown, hts⟩ (hc l D cA sb base)
    ⟨callB_of n hts (am_good ok.1 hcode) rfl rfl rfl (hts _ hini) (hts _ hlink) hdes hfr, hts _ hinst, hts _ hsel⟩
    ⟨am_blind, ⟨cell, g1, by rw [g3]; rfl, by rw [g2, ← hq2]; exact (hK.1 ci q hq1).2.1⟩, fun U hU hW => ⟨rfl, by rw [hU]; exact hR.moved hW.alike, hK.moved hW⟩⟩ rfl (by rw [List.length_map]; exact hn) hl.2.1 (by simp [am_cv]) ?_ hd ⟨by omega, by omega⟩) hS
    (fun v h' H1 locs1 hQ hR1 hS1 => k v h' hQ ok l D cA sb base p e s m args below meth c C0 H1 locs1 (cells + dc) (slots + ds) ls hR1 hS1 (by omega) (by omega) hl)
  show 2 * 0 + _ ≤ 8
  rw [am_wd_cv]
  omega
/-- a static method -/
theorem am_B.callS {i ci n f dc ds : Nat} {M : am_M} {as : List Value} {Qa : Option Value → am_H → Prop} (hf : am_find E.2.2.2 pc = some r) (hi : r.2.1 = .invokestatic i) (hm : am_mfind E.2.1.2.2 i = some (i, 1, ci, n, M)) (hc : am_Ct E.1 M f dc ds as h Qa)
    (hst : st = as.reverse ++ rest) (hn : as.length = n) (hw : am_wd rest ≤ 8) (hfit : am_fits R f M.2.2.1 = true) {rc0 rs0 : Nat} (hrc : rc + dc = rc0) (hrs : rs + ds = rs0) (k : ∀ v h', Qa v h' → am_B E R Z (pc + 3) lo (v.toList ++ rest) h' rc rs) : am_B E R Z pc lo st h rc0 rs0 := by
  subst hrc; subst hrs
  intro ok l D cA sb base p e s m args below meth c C H locs cells slots ls hR hS h1 h2 hl
  obtain ⟨hm0, rfl⟩ := am_find_ok hf
  obtain ⟨hd, -, -⟩ := ok.2.2 r hm0
  obtain ⟨hq, -⟩ := am_mfind_ok hm
  obtain ⟨hcode, hdes, hini, hlink, hstt⟩ := ok.2.1.2.2 _ hq
  dsimp only at hcode hdes hini hlink hstt
  have C0 := C
  obtain ⟨hx, hb, hml, hret, hown, hts, hK, hlk, hnm⟩ := C
  rw [hi] at hd
  subst hst
  have hfr := am_fits_ok hfit
  refine am_back (va_runS (As := as.map (am_cv sb base)) (rest := rest.map (am_cv sb base)) ⟨hx, hb, hml, hown, hts⟩ (hc l D cA sb base)
    ⟨callB_of n hts (am_good ok.1 hcode) rfl rfl rfl (hts _ hini) (hts _ hlink) hdes hfr, hts _ hstt⟩
    ⟨am_blind, fun U hU hW => ⟨rfl, by rw [hU]; exact hR.moved hW.alike, hK.moved hW⟩⟩ rfl (by rw [List.length_map]; exact hn) hl.2.1 (by simp) ?_ hd ⟨by omega, by omega⟩) hS
    (fun v h' H1 locs1 hQ hR1 hS1 => k v h' hQ ok l D cA sb base p e s m args below meth c C0 H1 locs1 (cells + dc) (slots + ds) ls hR1 hS1 (by omega) (by omega) hl)
  show 2 * 0 + _ ≤ 8
  rw [am_wd_cv]
  omega
theorem am_B.callSN {i ci n f dc ds : Nat} {M : am_M} {as : List Value} {Qa : Option Value → am_H → Prop} (hf : am_find E.2.2.2 pc = some r) (hi : r.2.1 = .invokestatic i) (hm : am_mfind E.2.1.2.2 i = some (i, 4, ci, n, M)) (hc : am_Ct E.1 M f dc ds as h Qa)
    (hst : st = as.reverse ++ rest) (hn : as.length = n) (hw : am_wd rest ≤ 8) (hfit : am_fits R f M.2.2.1 = true) {rc0 rs0 : Nat} (hrc : rc + dc = rc0) (hrs : rs + ds = rs0) (k : ∀ v h', Qa v h' → am_B E R Z (pc + 3) lo (v.toList ++ rest) h' rc rs) : am_B E R Z pc lo st h rc0 rs0 := by
  subst hrc; subst hrs
  intro ok l D cA sb base p e s m args below meth c C H locs cells slots ls hR hS h1 h2 hl
  obtain ⟨hm0, rfl⟩ := am_find_ok hf
  obtain ⟨hd, -, -⟩ := ok.2.2 r hm0
  obtain ⟨hq, -⟩ := am_mfind_ok hm
  obtain ⟨hcode, hdes, hini, host, hlink, hstt⟩ := ok.2.1.2.2 _ hq
  dsimp only at hcode hdes hini hlink hstt
  have C0 := C
  obtain ⟨hx, hb, hml, hret, hown, hts, hK, hlk, hnm⟩ := C
  rw [hi] at hd
  subst hst
  have hfr := am_fits_ok hfit
  refine am_back (va_runSN (As := as.map (am_cv sb base)) (rest := rest.map (am_cv sb base)) ⟨hx, hb, hml, hown, hts⟩ (hc l D cA sb base)
    ⟨va_cnB n hts (am_good ok.1 hcode) rfl rfl rfl (hK.2.2.1 _ hlink) (hts _ hini) hdes hfr, hts _ hstt, trivial⟩
    ⟨am_blind, fun U hU hW => ⟨rfl, by rw [hU]; exact hR.moved hW.alike, hK.moved hW⟩⟩ rfl (by rw [List.length_map]; exact hn) hl.2.1 (by simp) ?_ hd ⟨by omega, by omega⟩) hS
    (fun v h' H1 locs1 hQ hR1 hS1 => k v h' hQ ok l D cA sb base p e s m args below meth c C0 H1 locs1 (cells + dc) (slots + ds) ls hR1 hS1 (by omega) (by omega) hl)
  show 2 * 0 + _ ≤ 8
  rw [am_wd_cv]
  omega
/-- a constructor -/
theorem am_B.callI {i ci n f dc ds a : Nat} {M : am_M} {as : List Value} {Qa : Option Value → am_H → Prop} (hf : am_find E.2.2.2 pc = some r) (hi : r.2.1 = .invokespecial i) (hm : am_mfind E.2.1.2.2 i = some (i, 2, ci, n, M)) (hc : am_Ct E.1 M f dc ds (.ref a :: as) h Qa)
    (hst : st = as.reverse ++ .ref a :: rest) (hn : as.length = n) (hw : am_wd rest ≤ 8) (hfit : am_fits R f M.2.2.1 = true) {rc0 rs0 : Nat} (hrc : rc + dc = rc0) (hrs : rs + ds = rs0) (k : ∀ v h', Qa v h' → am_B E R Z (pc + 3) lo (v.toList ++ rest) h' rc rs) : am_B E R Z pc lo st h rc0 rs0 := by
  subst hrc; subst hrs
  intro ok l D cA sb base p e s m args below meth c C H locs cells slots ls hR hS h1 h2 hl
  obtain ⟨hm0, rfl⟩ := am_find_ok hf
  obtain ⟨hd, -, -⟩ := ok.2.2 r hm0
  obtain ⟨hq, -⟩ := am_mfind_ok hm
  obtain ⟨hcode, hdes, hini, hlink, hinst, hy1, hy2⟩ := ok.2.1.2.2 _ hq
  obtain ⟨y, cc, maxL, ret⟩ := M
  dsimp only at hcode hdes hini hlink hinst hy1 hy2
  subst hy2
  have C0 := C
  obtain ⟨hx, hb, hml, hret, hown, hts, hK, hlk, hnm⟩ := C
  rw [hi] at hd
  subst hst
  have hfr := am_fits_ok hfit
  refine am_back (va_runI (As := as.map (am_cv sb base)) (rest := rest.map (am_cv sb base)) ⟨hx, hb, hml, hown, hts⟩ (hc l D cA sb base)
    ⟨callB_of n hts (am_good ok.1 hcode) rfl rfl rfl (hts _ hini) (hts _ hlink) hdes hfr, hy1, hts _ hinst⟩
    ⟨am_blind, fun U hU hW => ⟨rfl, by rw [hU]; exact hR.moved hW.alike, hK.moved hW⟩⟩ rfl (by rw [List.length_map]; exact hn) hl.2.1 (by simp [am_cv]) ?_ hd ⟨by omega, by omega⟩) hS
    (fun v h' H1 locs1 hQ hR1 hS1 => k v h' hQ ok l D cA sb base p e s m args below meth c C0 H1 locs1 (cells + dc) (slots + ds) ls hR1 hS1 (by omega) (by omega) hl)
  show 2 * 0 + _ ≤ 8
  rw [am_wd_cv]
  omega
theorem am_B.callIN {i ci n f dc ds a : Nat} {M : am_M} {as : List Value} {Qa : Option Value → am_H → Prop} (hf : am_find E.2.2.2 pc = some r) (hi : r.2.1 = .invokespecial i) (hm : am_mfind E.2.1.2.2 i = some (i, 5, ci, n, M)) (hc : am_Ct E.1 M f dc ds (.ref a :: as) h Qa)
    (hst : st = as.reverse ++ .ref a :: rest) (hn : as.length = n) (hw : am_wd rest ≤ 8) (hfit : am_fits R f M.2.2.1 = true) {rc0 rs0 : Nat} (hrc : rc + dc = rc0) (hrs : rs + ds = rs0) (k : ∀ v h', Qa v h' → am_B E R Z (pc + 3) lo (v.toList ++ rest) h' rc rs) : am_B E R Z pc lo st h rc0 rs0 := by
  subst hrc; subst hrs
  intro ok l D cA sb base p e s m args below meth c C H locs cells slots ls hR hS h1 h2 hl
  obtain ⟨hm0, rfl⟩ := am_find_ok hf
  obtain ⟨hd, -, -⟩ := ok.2.2 r hm0
  obtain ⟨hq, -⟩ := am_mfind_ok hm
  obtain ⟨hcode, hdes, hini, host, hlink, hinst, hy1, hy2⟩ := ok.2.1.2.2 _ hq
  obtain ⟨y, cc, maxL, ret⟩ := M
  dsimp only at hcode hdes hini hlink hinst hy1 hy2
  subst hy2
  have C0 := C
  obtain ⟨hx, hb, hml, hret, hown, hts, hK, hlk, hnm⟩ := C
  rw [hi] at hd
  subst hst
  have hfr := am_fits_ok hfit
  refine am_back (va_runIN (As := as.map (am_cv sb base)) (rest := rest.map (am_cv sb base)) ⟨hx, hb, hml, hown, hts⟩ (hc l D cA sb base)
    ⟨va_cnB n hts (am_good ok.1 hcode) rfl rfl rfl (hK.2.2.1 _ hlink) (hts _ hini) hdes hfr, hy1, hts _ hinst⟩
    ⟨am_blind, fun U hU hW => ⟨rfl, by rw [hU]; exact hR.moved hW.alike, hK.moved hW⟩⟩ rfl (by rw [List.length_map]; exact hn) hl.2.1 (by simp [am_cv]) ?_ hd ⟨by omega, by omega⟩) hS
    (fun v h' H1 locs1 hQ hR1 hS1 => k v h' hQ ok l D cA sb base p e s m args below meth c C0 H1 locs1 (cells + dc) (slots + ds) ls hR1 hS1 (by omega) (by omega) hl)
  show 2 * 0 + _ ≤ 8
  rw [am_wd_cv]
  omega
/-- Object's own constructor -/
theorem am_B.obji {i a : Nat} (hf : am_find E.2.2.2 pc = some r) (hi : r.2.1 = .invokespecial i) (hl1 : Jvm.Cond.methodLink E.2.2.1.1.cls i objectInit ∈ E.1.2) (hl2 : Jvm.Cond.instanceMethod objectInit ∈ E.1.2) (hl3 : Jvm.Cond.code objectInit ⟨#[0xb1]⟩ 1 none ∈ E.1.2) (hw : am_wd rest ≤ 8) (hR1 : (Nat.ble 1 R.frames && Nat.ble 20 R.locals) = true)
    (k : am_B E R Z (pc + 3) lo rest h rc rs) : am_B E R Z pc lo (.ref a :: rest) h rc rs := by
  intro ok l D cA sb base p e s m args below meth c C H locs cells slots ls hR hS h1 h2 hl
  have K := k ok l D cA sb base p e s m args below meth c C H locs cells slots ls hR hS h1 h2 hl
  obtain ⟨hm0, rfl⟩ := am_find_ok hf
  obtain ⟨hd, -, -⟩ := ok.2.2 r hm0
  obtain ⟨hx, hb, hml, hret, hown, hts, hK, hlk, hnm⟩ := C
  rw [hi] at hd
  simp only [Bool.and_eq_true] at hR1
  have r1 := Nat.le_of_ble_eq_true hR1.1
  have r2 := Nat.le_of_ble_eq_true hR1.2
  refine W.objInit hx hb hown (hts _ hl1) (hts _ hl2) (hts _ hl3) rfl (by rw [hml]; exact hl.2.1) rfl hd r1 ?_ K
  show 2 * 0 + _ + 12 ≤ _
  rw [am_wd_cv]
  omega
/-- a new object -/
theorem am_B.new {i : Nat} {q : am_NR} (hf : am_find E.2.2.2 pc = some r) (hi : r.2.1 = .new i) (hq : am_nfind E.2.1.2.1 i = some q) (k : am_B E R Z (pc + 3) lo (.ref h.length :: st) (h ++ [.inr (q.2.1, q.2.2)]) rc rs) : am_B E R Z pc lo st h (rc + 1) (rs + q.2.2.length) := by
  intro ok l D cA sb base p e s m args below meth c C H locs cells slots ls hR hS h1 h2 hl
  have K := fun H1 a1 a2 => k ok l D cA sb base p e s m args below meth c C H1 locs (cells + 1) (slots + q.2.2.length) ls a1 a2 (by omega) (by omega) hl
  obtain ⟨hm0, rfl⟩ := am_find_ok hf
  obtain ⟨hd, -, -⟩ := ok.2.2 r hm0
  obtain ⟨hqm, rfl⟩ := am_nfind_ok hq
  obtain ⟨C', T, N, hc, ⟨hin, hnm', ty0, hty⟩, hclk, hins, hini, hdef, hlen, hnr⟩ := ok.2.1.2.1 q hqm
  obtain ⟨hx, hb, hml, hret, hown, hts, hK, hlk, hnm⟩ := C
  rw [hi] at hd
  have hKn := hK.1 _ _ hc
  rw [hlen] at K
  refine W.newcK hx hb hown (hts _ hclk) (hts _ hins) (hts _ hini) rfl hd (by omega) (by omega) hKn.2.1 rfl fun H1 kC hkC e1 z1 o1 => ?_
  rw [← hR.next]
  refine K H1 (hR.push z1 o1 ⟨_, hc, (u_born ty0 hts hin hKn hkC e1 hty).to (fun j hj => ?_)⟩) ⟨Nat.le_trans hS.1 (by omega), fun x a1 a2 => (o1 x (Nat.lt_of_lt_of_le a1 hS.1)).trans (hS.2.1 x a1 a2), hS.2.2⟩
  have := hdef j hj
  rw [hty j hj] at this
  have h3 := this.symm
  simp only [Option.map_some] at h3
  unfold vp_V
  rw [List.getD_eq_getElem?_getD, List.getElem?_map, h3]
  have hm : defaultValue (ty0 j) ∈ q.2.2 := List.mem_of_getElem? h3
  have h4 := List.all_eq_true.mp hnr _ hm
  cases hd : defaultValue (ty0 j) <;> first | rfl | (rw [hd] at h4; exact absurd h4 (by simp [am_isk]))
/-- a new row of numbers -/
theorem am_B.newa_g {ay : ArrayType} {t n : Nat} {ty : FieldType} {x : vp_A} {j : Int32} (hf : am_find E.2.2.2 pc = some r) (hi : r.2.1 = .newarray ay) (hw : Jvm.Cond.arrayClass (newarray.typeOf ay) ∈ E.1.2) (htt : newarray.typeOf ay = ty) (ht : am_tys[t]? = some ty) (hon : am_on t = true) (ht9 : t ≠ 99)
    (hra : ∀ (U : State) (c : ClassId), va_RA U c ty → U.vm.findClass ("[" ++ ty.toString) = some c) (hz : ∀ (c : ClassId) (sb base : Nat), vp_cell c (am_cx sb base x) = arrV c n (fun _ => defaultValue ty)) (hj : j = nI n) (hn : n ≤ 60000000)
    (k : am_B E R Z (pc + 2) lo (.ref h.length :: st) (h ++ [.inl (t, x)]) rc rs) : am_B E R Z pc lo (.int j :: st) h (rc + 1) (rs + n) := by
  intro ok l D cA sb base p e s m args below meth c C H locs cells slots ls hR hS h1 h2 hl
  have K := fun H1 a1 a2 => k ok l D cA sb base p e s m args below meth c C H1 locs (cells + 1) (slots + n) ls a1 a2 (by omega) (by omega) hl
  obtain ⟨hm0, rfl⟩ := am_find_ok hf
  obtain ⟨hd, -, -⟩ := ok.2.2 r hm0
  obtain ⟨hx, hb, hml, hret, hown, hts, hK, hlk, hnm⟩ := C
  rw [hi] at hd
  have hn31 : n < 2 ^ 31 := by omega
  have hbytes : n * componentBytes (newarray.typeOf ay) ≤ 536870912 := by
    cases ay <;> simp only [newarray.typeOf, componentBytes] <;> omega
  subst hj
  refine va_newaK hx hb (hts _ hw) rfl hd rfl (nI_pos hn31) (nI_clamp hn31) hbytes (by omega) (by omega) rfl fun H1 cA' e1 z1 o1 hAr hNm => ?_
  have ecA : cA' = cA t := by
    have h3 := hra s (cA t) (hK.2.1 t ty ht hon).2
    rw [htt] at hNm
    exact Option.some.inj (hNm.symm.trans h3)
  rw [← hR.next]
  refine K H1 (hR.push z1 o1 ⟨fun q => absurd q ht9, fun _ => Or.inr ?_⟩) ⟨Nat.le_trans hS.1 (by omega), fun x a1 a2 => (o1 x (Nat.lt_of_lt_of_le a1 hS.1)).trans (hS.2.1 x a1 a2), hS.2.2⟩
  rw [e1]
  dsimp only
  rw [hz, htt, ecA]
theorem am_B.newI {n : Nat} {j : Int32} (hf : am_find E.2.2.2 pc = some r) (hi : r.2.1 = .newarray .int) (hw : Jvm.Cond.arrayClass .int ∈ E.1.2) (hj : j = nI n) (hn : n ≤ 60000000) (k : am_B E R Z (pc + 2) lo (.ref h.length :: st) (h ++ [.inl (0, n, .inl fun _ => 0)]) rc rs) : am_B E R Z pc lo (.int j :: st) h (rc + 1) (rs + n) :=
  am_B.newa_g hf hi hw rfl rfl rfl (by decide) (fun _ _ q => q) (fun _ _ _ => rfl) hj hn k
theorem am_B.newZ {n : Nat} {j : Int32} (hon : am_on 1 = true) (hf : am_find E.2.2.2 pc = some r) (hi : r.2.1 = .newarray .boolean) (hw : Jvm.Cond.arrayClass .boolean ∈ E.1.2) (hj : j = nI n) (hn : n ≤ 60000000) (k : am_B E R Z (pc + 2) lo (.ref h.length :: st) (h ++ [.inl (1, n, .inl fun _ => 0)]) rc rs) : am_B E R Z pc lo (.int j :: st) h (rc + 1) (rs + n) :=
  am_B.newa_g hf hi hw rfl rfl hon (by decide) (fun _ _ q => q) (fun _ _ _ => rfl) hj hn k
theorem am_B.newJ {n : Nat} {j : Int32} (hon : am_on 2 = true) (hf : am_find E.2.2.2 pc = some r) (hi : r.2.1 = .newarray .long) (hw : Jvm.Cond.arrayClass .long ∈ E.1.2) (hj : j = nI n) (hn : n ≤ 60000000) (k : am_B E R Z (pc + 2) lo (.ref h.length :: st) (h ++ [.inl (2, n, .inr (.inl fun _ => 0))]) rc rs) : am_B E R Z pc lo (.int j :: st) h (rc + 1) (rs + n) :=
  am_B.newa_g hf hi hw rfl rfl hon (by decide) (fun _ _ q => q) (fun _ _ _ => rfl) hj hn k
theorem am_B.newD {n : Nat} {j : Int32} (hon : am_on 3 = true) (hf : am_find E.2.2.2 pc = some r) (hi : r.2.1 = .newarray .double) (hw : Jvm.Cond.arrayClass .double ∈ E.1.2) (hj : j = nI n) (hn : n ≤ 60000000) (k : am_B E R Z (pc + 2) lo (.ref h.length :: st) (h ++ [.inl (3, n, .inr (.inr (.inr (.inl fun _ => 0))))]) rc rs) : am_B E R Z pc lo (.int j :: st) h (rc + 1) (rs + n) :=
  am_B.newa_g hf hi hw rfl rfl hon (by decide) (fun _ _ q => q) (fun _ _ _ => rfl) hj hn k
/-- new Trace[n] -/
theorem am_B.newT {i n : Nat} {j : Int32} (hf : am_find E.2.2.2 pc = some r) (hi : r.2.1 = .anewarray i) (hw1 : Jvm.Cond.classLink E.2.2.1.1.cls i "TraceAligner$Trace" ∈ E.1.2) (hj : j = nI n) (hn : n ≤ 60000000)
    (k : am_B E R Z (pc + 3) lo (.ref h.length :: st) (h ++ [.inl (4, n, .inr (.inr (.inr (.inr fun _ => none))))]) rc rs) : am_B E R Z pc lo (.int j :: st) h (rc + 1) (rs + n) := by
  intro ok l D cA sb base p e s m args below meth c C H locs cells slots ls hR hS h1 h2 hl
  have K := fun H1 a1 a2 => k ok l D cA sb base p e s m args below meth c C H1 locs (cells + 1) (slots + n) ls a1 a2 (by omega) (by omega) hl
  obtain ⟨hm0, rfl⟩ := am_find_ok hf
  obtain ⟨hd, -, -⟩ := ok.2.2 r hm0
  obtain ⟨hx, hb, hml, hret, hown, hts, hK, hlk, hnm⟩ := C
  rw [hi] at hd
  have hn31 : n < 2 ^ 31 := by omega
  subst hj
  have hcl := nI_clamp hn31
  refine W.anew hx hb hown (hts _ hw1) (va_AO.use hK.2.2.2.1) rfl hd rfl (nI_pos hn31) (by rw [hcl]; omega) (by omega) (by rw [hcl]; omega) fun cA' kA comp f1 f2 f3 f4 => ?_
  rw [hcl]
  generalize hH1 : H.push ({ cls := cA', slots := Array.replicate n .null, vm := .none } : Cell) = H1
  have z1 : H1.size = H.size + 1 := by rw [← hH1, Array.size_push]
  have e1 : H1[H.size]? = some (arrV cA' n (fun _ => .null)) := by rw [← hH1, Array.getElem?_push_size, ← arrV_new]
  have o1 : ∀ q : Nat, q < H.size → H1[q]? = H[q]? := fun q hq => by rw [← hH1, Array.getElem?_push, if_neg (Nat.ne_of_lt hq)]
  have ecA : cA' = cA 4 := by
    obtain ⟨kA', comp', g1, g2, g3, g4⟩ := (hK.2.1 4 _ rfl rfl).2
    exact Option.some.inj (f1.symm.trans g4)
  rw [← hR.next]
  refine K H1 (hR.push z1 o1 (am_mk_q (by decide) ?_)) ⟨Nat.le_trans hS.1 (by omega), fun x a1 a2 => (o1 x (Nat.lt_of_lt_of_le a1 hS.1)).trans (hS.2.1 x a1 a2), hS.2.2⟩
  rw [e1, ecA]
  rfl
/-- an object into a row of its class -/
theorem am_B.aast {a b n ci : Nat} {f : Nat → Option Nat} {vs : List Value} {j : Int32} (hf : am_find E.2.2.2 pc = some r) (hi : r.2.1 = .aastore) (ha : h[a]? = some (.inl (4, n, .inr (.inr (.inr (.inr f)))))) (hb0 : h[b]? = some (.inr (ci, vs))) (hci : (E.1.1[ci]?).map (·.1) = some "TraceAligner$Trace") (hin : vp_in j n)
    (k : am_B E R Z r.2.2.1 lo st (h.set a (.inl (4, n, .inr (.inr (.inr (.inr (va_up f j.toNatClampNeg (some b)))))))) rc rs) : am_B E R Z pc lo (.ref b :: .int j :: .ref a :: st) h rc rs := by
  intro ok l D cA sb base p e s m args below meth c C H locs cells slots ls hR hS h1 h2 hl
  have K := fun H1 l1 q1 q2 => k ok l D cA sb base p e s m args below meth c C H1 l1 cells slots ls q1 q2 h1 h2 hl
  obtain ⟨hm0, rfl⟩ := am_find_ok hf
  obtain ⟨hd, hn, -⟩ := ok.2.2 r hm0
  obtain ⟨hx, hb, hml, hret, hown, hts, hK, hlk, hnm⟩ := C
  rw [hi] at hd hn
  rw [hn] at K
  have a0 : a ≠ 0 := by
    rintro rfl
    obtain ⟨x, hx⟩ := hR.2.2.1
    rw [hx] at ha
    cases ha
  have aB : base ≤ am_ad sb base a := by
    obtain ⟨j, rfl⟩ : ∃ j, a = j + 1 := ⟨a - 1, by omega⟩
    exact am_ad_ge
  have hA := am_at_q (hR.2.2.2 a _ ha) (by decide)
  obtain ⟨q, hq1, hq2⟩ : ∃ q, E.1.1[ci]? = some q ∧ q.1 = "TraceAligner$Trace" := by
    cases hz : E.1.1[ci]? with
    | none => rw [hz] at hci; cases hci
    | some q => rw [hz] at hci; exact ⟨q, rfl, Option.some.inj hci⟩
  have hlt : j.toNatClampNeg < n := Nat.not_le.mp fun q => hin (Or.inr q)
  have h0 : ¬ j < 0 := fun q => hin (Or.inl q)
  obtain ⟨r', hr', cellV, g1, g2, g3, -⟩ := hR.2.2.2 b _ hb0
  have hcls := (hK.1 ci q hq1).2
  obtain ⟨kA, comp, k1, k2, k3, -⟩ := (hK.2.1 4 _ rfl rfl).2
  have hcomp : comp = D.1 ci := by
    have h5 := hcls.1
    rw [hq2] at h5
    exact Option.some.inj (k3.symm.trans h5)
  subst hcomp
  obtain ⟨kC, hkC, -⟩ := hcls.2
  refine W.aast hx hb hA (fun q h => by cases h) (fun h => by cases h) k1 k2 rfl hkC ⟨h0, by rw [arrV_size]; exact hlt⟩ g1 (fun q h => by rw [g3] at h; cases h) (by rw [g2]; exact hkC) (by rw [g2]; exact va_assign hcls) rfl rfl hd fun H1 e z oq => ?_
  refine K H1 _ (hR.set ha z oq a0 (am_mk_q (by decide) ?_)) (hS.put z oq aB)
  rw [e, arrV_store]
  congr 2
  funext q
  by_cases hq : q = j.toNatClampNeg
  · subst hq
    simp [updV, va_up, va_rf]
  · simp [updV, va_up, hq]
/-! ends -/
theorem am_B.iret {dc ds f : Nat} {Qa : Option Value → am_H → Prop} {x : Int32} (hf : am_find E.2.2.2 pc = some r) (hi : r.2.1 = .ireturn) (hret0 : E.2.2.1.2.2.2 = some .int) (hq : Qa (some (.int x)) h) : am_B E (am_rm f dc ds) (am_ZM E dc ds Qa) pc lo [.int x] h rc rs := by
  intro ok l D cA sb base p e s m args below meth c C H locs cells slots ls hR hS h1 h2 hl
  obtain ⟨hm0, rfl⟩ := am_find_ok hf
  obtain ⟨hd, -, -⟩ := ok.2.2 r hm0
  obtain ⟨hx, hb, hml, hret, hown, hts, hK, hlk, hnm⟩ := C
  rw [hi] at hd
  refine W.widen (k := dc) (n := ds) (by have : (am_rm f dc ds).cells = dc := rfl; omega) (by have : (am_rm f dc ds).slots = ds := rfl; omega) ?_
  exact W.zret (ty := .int) hx hb (hret.trans hret0) rfl (fun t ht hW => ⟨⟨some (.int x), h, rfl, hq, by rw [ht]; exact hR.moved hW.alike, hK.moved hW⟩, hS.F ht⟩) hS.2.2 hd
theorem am_B.zret {dc ds f : Nat} {Qa : Option Value → am_H → Prop} {x : Int32} (hf : am_find E.2.2.2 pc = some r) (hi : r.2.1 = .ireturn) (hret0 : E.2.2.1.2.2.2 = some .boolean) (h01 : am_fit 1 (.int x) = true) (hq : Qa (some (.int x)) h) : am_B E (am_rm f dc ds) (am_ZM E dc ds Qa) pc lo [.int x] h rc rs := by
  intro ok l D cA sb base p e s m args below meth c C H locs cells slots ls hR hS h1 h2 hl
  obtain ⟨hm0, rfl⟩ := am_find_ok hf
  obtain ⟨hd, -, -⟩ := ok.2.2 r hm0
  obtain ⟨hx, hb, hml, hret, hown, hts, hK, hlk, hnm⟩ := C
  rw [hi] at hd
  refine W.widen (k := dc) (n := ds) (by have : (am_rm f dc ds).cells = dc := rfl; omega) (by have : (am_rm f dc ds).slots = ds := rfl; omega) ?_
  exact W.zret (ty := .boolean) hx hb (hret.trans hret0) (am_fit_ok (sb := 0) (base := 0) (kd := 1) rfl h01).1 (fun t ht hW => ⟨⟨some (.int x), h, rfl, hq, by rw [ht]; exact hR.moved hW.alike, hK.moved hW⟩, hS.F ht⟩) hS.2.2 hd
theorem am_B.vret {dc ds f : Nat} {Qa : Option Value → am_H → Prop} (hf : am_find E.2.2.2 pc = some r) (hi : r.2.1 = .return_) (hret0 : E.2.2.1.2.2.2 = none) (hq : Qa none h) : am_B E (am_rm f dc ds) (am_ZM E dc ds Qa) pc lo [] h rc rs := by
  intro ok l D cA sb base p e s m args below meth c C H locs cells slots ls hR hS h1 h2 hl
  obtain ⟨hm0, rfl⟩ := am_find_ok hf
  obtain ⟨hd, -, -⟩ := ok.2.2 r hm0
  obtain ⟨hx, hb, hml, hret, hown, hts, hK, hlk, hnm⟩ := C
  rw [hi] at hd
  refine W.widen (k := dc) (n := ds) (by have : (am_rm f dc ds).cells = dc := rfl; omega) (by have : (am_rm f dc ds).slots = ds := rfl; omega) ?_
  exact W.vret hx hb (hret.trans hret0) (fun t ht hW => ⟨⟨none, h, rfl, hq, by rw [ht]; exact hR.moved hW.alike, hK.moved hW⟩, hS.F ht⟩) hS.2.2 hd
theorem am_B.lret {dc ds f : Nat} {Qa : Option Value → am_H → Prop} {x : Int64} (hf : am_find E.2.2.2 pc = some r) (hi : r.2.1 = .lreturn) (hret0 : E.2.2.1.2.2.2 = some .long) (hq : Qa (some (.long x)) h) : am_B E (am_rm f dc ds) (am_ZM E dc ds Qa) pc lo [.long x] h rc rs := by
  intro ok l D cA sb base p e s m args below meth c C H locs cells slots ls hR hS h1 h2 hl
  obtain ⟨hm0, rfl⟩ := am_find_ok hf
  obtain ⟨hd, -, -⟩ := ok.2.2 r hm0
  obtain ⟨hx, hb, hml, hret, hown, hts, hK, hlk, hnm⟩ := C
  rw [hi] at hd
  refine W.widen (k := dc) (n := ds) (by have : (am_rm f dc ds).cells = dc := rfl; omega) (by have : (am_rm f dc ds).slots = ds := rfl; omega) ?_
  exact W.lret hx hb (hret.trans hret0) (fun t ht hW => ⟨⟨some (.long x), h, rfl, hq, by rw [ht]; exact hR.moved hW.alike, hK.moved hW⟩, hS.F ht⟩) hS.2.2 hd
theorem am_B.dret {dc ds f : Nat} {Qa : Option Value → am_H → Prop} {x : UInt64} (hf : am_find E.2.2.2 pc = some r) (hi : r.2.1 = .dreturn) (hret0 : E.2.2.1.2.2.2 = some .double) (hq : Qa (some (.double x)) h) : am_B E (am_rm f dc ds) (am_ZM E dc ds Qa) pc lo [.double x] h rc rs := by
  intro ok l D cA sb base p e s m args below meth c C H locs cells slots ls hR hS h1 h2 hl
  obtain ⟨hm0, rfl⟩ := am_find_ok hf
  obtain ⟨hd, -, -⟩ := ok.2.2 r hm0
  obtain ⟨hx, hb, hml, hret, hown, hts, hK, hlk, hnm⟩ := C
  rw [hi] at hd
  refine W.widen (k := dc) (n := ds) (by have : (am_rm f dc ds).cells = dc := rfl; omega) (by have : (am_rm f dc ds).slots = ds := rfl; omega) ?_
  exact W.dret hx hb (hret.trans hret0) (fun t ht hW => ⟨⟨some (.double x), h, rfl, hq, by rw [ht]; exact hR.moved hW.alike, hK.moved hW⟩, hS.F ht⟩) hS.2.2 hd
theorem am_B.aret {dc ds f a : Nat} {C' : String} {Qa : Option Value → am_H → Prop} (hf : am_find E.2.2.2 pc = some r) (hi : r.2.1 = .areturn) (hret0 : E.2.2.1.2.2.2 = some (.object C')) (hq : Qa (some (.ref a)) h) : am_B E (am_rm f dc ds) (am_ZM E dc ds Qa) pc lo [.ref a] h rc rs := by
  intro ok l D cA sb base p e s m args below meth c C H locs cells slots ls hR hS h1 h2 hl
  obtain ⟨hm0, rfl⟩ := am_find_ok hf
  obtain ⟨hd, -, -⟩ := ok.2.2 r hm0
  obtain ⟨hx, hb, hml, hret, hown, hts, hK, hlk, hnm⟩ := C
  rw [hi] at hd
  refine W.widen (k := dc) (n := ds) (by have : (am_rm f dc ds).cells = dc := rfl; omega) (by have : (am_rm f dc ds).slots = ds := rfl; omega) ?_
  exact W.aret hx hb (hret.trans hret0) (Or.inl ⟨_, rfl⟩) (Or.inr ⟨_, rfl⟩) (fun t ht hW => ⟨⟨some (.ref a), h, rfl, hq, by rw [ht]; exact hR.moved hW.alike, hK.moved hW⟩, hS.F ht⟩) hS.2.2 hd
end CALLS
