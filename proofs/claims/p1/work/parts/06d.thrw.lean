/-! THROWS with a wide index; the words of the class's throws -/
section THROW
variable {E : am_E} {R : Room} {Z : am_Z} {pc : Nat} {lo lo' : am_L} {st rest : List Value} {h : am_H} {rc rs : Nat} {r : am_Row} {dc ds f : Nat} {Qa : Option Value → am_H → Prop} {Xa : String → am_H → Prop} {hh : List (Nat × Nat × Nat × Nat)}
/-- 'throw new E("text")', a wide index, nothing under it on the stack -/
theorem am_B.thrW {i0 i4 i6 : Nat} {cls text : String} {names : List String} {r0 r3 r4 r6 r9 : am_Row} (h0 : am_find E.2.2.2 pc = some r0) (g0 : r0.2.1 = .new i0) (h3 : am_find E.2.2.2 (pc + 3) = some r3) (g3 : r3.2.1 = .dup) (h4 : am_find E.2.2.2 (pc + 4) = some r4) (g4 : r4.2.1 = .ldc_w i4) (h6 : am_find E.2.2.2 (pc + 7) = some r6) (g6 : r6.2.1 = .invokespecial i6) (h9 : am_find E.2.2.2 (pc + 10) = some r9) (g9 : r9.2.1 = .athrow)
    (hcls : Bundle.fit cls = true) (hnames : ∀ n ∈ names, Bundle.fit n = true) (hw : ∀ w ∈ Cond.classLink E.2.2.1.1.cls i0 cls :: Cond.initialized cls :: vx_atS E.2.2.1.1.cls i6 cls names, w ∈ E.1.2 ∨ w ∈ am_ws9) (hstr : (E.2.2.1.1.cls, i4, text) ∈ am_str) (hf : names.length + 3 < f) (hfl : 13 * (names.length + 1) + 43 ≤ 36 * f)
    (hq : ∀ d, Xa cls (h ++ List.replicate d am_unk)) : am_B E (am_rm f dc ds) (am_ZX E dc ds Qa Xa) pc lo [] h (rc + 1) (rs + 6) := by
  intro ok l D cA sb base p e s m args below meth c C H locs cells slots ls hR hS k1 k2 hl
  obtain ⟨hx, hb, hml, hret, hown, hts, hK, hlk, hnm⟩ := C
  have dec : ∀ {q : Nat} {r : am_Row}, am_find E.2.2.2 q = some r → decode E.2.2.1.2.1 q = .ok (r.2.1, am_len r.2.1) := fun {q r} hf9 => by
    obtain ⟨hm0, rfl⟩ := am_find_ok hf9
    exact (ok.2.2 r hm0).1
  have d0 := dec h0
  have d3 := dec h3
  have d4 := dec h4
  have d6 := dec h6
  have d9 := dec h9
  rw [g0] at d0
  rw [g3] at d3
  rw [g4] at d4
  rw [g6] at d6
  rw [g9] at d9
  by_cases hP : am_P [] l c base s
  · obtain ⟨sa, hsa⟩ := hP.2.2.2.2.1 _ hstr
    have hts9 : ∀ w, w ∈ E.1.2 ∨ w ∈ am_ws9 → w.before args s = true := fun w hw9 => hw9.elim (hts w) (fun z => va_Nw.use (am_ws9_on w z) (hP.2.2.2.2.2.2 w z))
    have hgo9 : ∀ w, w ∈ E.1.2 ∨ w ∈ am_ws9 → vx_ot w = true := fun w hw9 => hw9.elim (fun z => by unfold vx_ot; rw [ok.1 w z, Bool.or_true]) (fun z => by unfold vx_ot; rw [am_ws9_on w z, Bool.true_or])
    have rc9 : cells + (rc + 1) ≤ dc := k1
    have rs9 : slots + (rs + 6) ≤ ds := k2
    intro T hT X
    obtain ⟨t, a1, b1⟩ := vx_throwSW (A := fun q => base ≤ q) (Qc := am_Qc D E.1.1 cA sb base Qa) (XC := am_XC D E.1.1 cA sb base Xa) (mc := dc) (ms := ds) (free := fun q => base ≤ q) (rest := []) hx hb hP.1 hown hcls hnames
      (hts9 _ (hw _ List.mem_cons_self)) (hts9 _ (hw _ (List.mem_cons_of_mem _ List.mem_cons_self))) hsa (fun w hw' => hts9 w (hw _ (List.mem_cons_of_mem _ (List.mem_cons_of_mem _ hw')))) (fun w hw' => hgo9 w (hw w hw'))
      hP.2.2.1 hP.2.2.2.1 hS (hl.2.1.trans hml.symm) d0 d3 d4 d6 d9 (fun x hx9 => by rw [hP.2.1] at hx9; cases hx9) hf (by show 0 + _ ≤ 36 * f; omega) (by show cells + 1 ≤ dc; omega) (by show slots + 6 ≤ ds; omega) hlk
      (fun t hal hz ho => ⟨⟨_, hq (t.heap.size - H.size), (hR.grow hz ho).moved hal⟩, Nat.le_trans hS.1 hz, fun q q1 q2 => (ho q (Nat.lt_of_lt_of_le q1 hS.1)).trans (hS.2.1 q q1 q2)⟩) hS.2.2 (by omega) (by omega) T hT X
    exact ⟨t, a1, fun _ => b1⟩
  · intro T hT X
    exact ⟨_, Steps.refl _, fun z => absurd z hP⟩
end THROW
def x_nm : List String := ["java/lang/RuntimeException", "java/lang/Exception"]
theorem x_fn : ∀ n ∈ x_nm, Bundle.fit n = true := by decide +kernel
theorem x_fA : Bundle.fit "java/lang/IllegalArgumentException" = true := by decide +kernel
set_option maxRecDepth 100000 in
theorem x_wA0 : (Jvm.Cond.classLink "TraceAligner" 79 "java/lang/IllegalArgumentException" :: Jvm.Cond.initialized "java/lang/IllegalArgumentException" :: vx_atS "TraceAligner" 83 "java/lang/IllegalArgumentException" x_nm).all (fun w => decide (w ∈ am_big) || decide (w ∈ am_ws9)) = true := by decide +kernel
theorem x_wA : ∀ w ∈ Jvm.Cond.classLink "TraceAligner" 79 "java/lang/IllegalArgumentException" :: Jvm.Cond.initialized "java/lang/IllegalArgumentException" :: vx_atS "TraceAligner" 83 "java/lang/IllegalArgumentException" x_nm, w ∈ am_big ∨ w ∈ am_ws9 := fun w h => (Bool.or_eq_true_iff.mp (List.all_eq_true.mp x_wA0 w h)).imp of_decide_eq_true of_decide_eq_true
theorem x_fS : Bundle.fit "java/lang/IllegalStateException" = true := by decide +kernel
set_option maxRecDepth 100000 in
theorem x_wS0 : (Jvm.Cond.classLink "TraceAligner" 61 "java/lang/IllegalStateException" :: Jvm.Cond.initialized "java/lang/IllegalStateException" :: vx_atS "TraceAligner" 65 "java/lang/IllegalStateException" x_nm).all (fun w => decide (w ∈ am_big) || decide (w ∈ am_ws9)) = true := by decide +kernel
theorem x_wS : ∀ w ∈ Jvm.Cond.classLink "TraceAligner" 61 "java/lang/IllegalStateException" :: Jvm.Cond.initialized "java/lang/IllegalStateException" :: vx_atS "TraceAligner" 65 "java/lang/IllegalStateException" x_nm, w ∈ am_big ∨ w ∈ am_ws9 := fun w h => (Bool.or_eq_true_iff.mp (List.all_eq_true.mp x_wS0 w h)).imp of_decide_eq_true of_decide_eq_true
theorem x_fO : Bundle.fit "java/lang/IndexOutOfBoundsException" = true := by decide +kernel
set_option maxRecDepth 100000 in
theorem x_wO0 : (Jvm.Cond.classLink "TraceAligner" 121 "java/lang/IndexOutOfBoundsException" :: Jvm.Cond.initialized "java/lang/IndexOutOfBoundsException" :: vx_atS "TraceAligner" 125 "java/lang/IndexOutOfBoundsException" x_nm).all (fun w => decide (w ∈ am_big) || decide (w ∈ am_ws9)) = true := by decide +kernel
theorem x_wO : ∀ w ∈ Jvm.Cond.classLink "TraceAligner" 121 "java/lang/IndexOutOfBoundsException" :: Jvm.Cond.initialized "java/lang/IndexOutOfBoundsException" :: vx_atS "TraceAligner" 125 "java/lang/IndexOutOfBoundsException" x_nm, w ∈ am_big ∨ w ∈ am_ws9 := fun w h => (Bool.or_eq_true_iff.mp (List.all_eq_true.mp x_wO0 w h)).imp of_decide_eq_true of_decide_eq_true
/-- thrown: En0, and nothing but unknown cells behind h -/
def xo (En0 : String) (h : am_H) : String → am_H → Prop := fun En h' => En = En0 ∧ ∃ d, h' = h ++ List.replicate d am_unk
