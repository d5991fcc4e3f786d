/-! THE PLAIN MACHINE: methods of a class that the machine has entries for, without an entry of their own -/
theorem am_Ct.ofF {E : am_E} {f dc ds : Nat} {av : List Value} {h : am_H} {Qa : Option Value → am_H → Prop} (hE : am_okE E) (hy : plainFor E.2.2.1.1 = true) (hn : (am_lo av).length ≤ E.2.2.1.2.2.1)
    (k : am_B E (am_rm f dc ds) (am_ZM E dc ds Qa) 0 (am_lo0 av E.2.2.1.2.2.1) [] h dc ds) : am_Ct E.1 E.2.2.1 f dc ds av h Qa := by
  intro l D cA sb base
  refine va_MetF (cc := E.2.2.1.2.1) (maxL := E.2.2.1.2.2.1) (ret := E.2.2.1.2.2.2) hy rfl ?_
  intro p e s m args below meth c s₁ B hml hv
  obtain ⟨rfl, hR, hK⟩ := hv
  have hts := atoms_spec (ws := .code E.2.2.1.1 E.2.2.1.2.1 E.2.2.1.2.2.1 E.2.2.1.2.2.2 :: E.1.2) B.pre
  have hown : s.vm.findClass E.2.2.1.1.cls = some m.cls := findClass_of_methodNamed B.named
  have K := k hE l D cA sb base p e s m _ below meth c ⟨B.exec, B.bytes, hml, B.returns, hown, fun w hw => hts w (List.mem_cons_of_mem _ hw), hK, B.notSynchronized, (name_of_methodNamed B.named B.method).1⟩
    s.heap [] 0 0 _ hR va_S.rf (by show 0 + dc ≤ dc; omega) (by show 0 + ds ≤ ds; omega) (am_entry hn)
  rw [lg_entry_eq]
  exact K
theorem pf_min : plainFor m_MA_min.1 = true := by decide +kernel
theorem pf_max : plainFor m_MA_max.1 = true := by decide +kernel
theorem pf_ntz : plainFor m_IN_numberOfTrailingZeros.1 = true := by decide +kernel
