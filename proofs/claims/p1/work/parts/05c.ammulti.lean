/-! THE PLAIN MACHINE: new int[n][m] -/
theorem am_outer (c : ClassId) (N h0 : Nat) : ∀ i : Nat, Jvm.Free.Multi.outerC c N h0 i = arrV c N (fun j => va_rf (if j < i then some (h0 + 1 + j) else none))
  | 0 => by
    show ({ cls := c, slots := Array.replicate N .null, vm := .none } : Cell) = _
    rw [arrV_new]
    refine congrArg (arrV c N) (funext fun j => ?_)
    simp [va_rf]
  | i + 1 => by
    show (Jvm.Free.Multi.outerC c N h0 i).setSlot i (.ref (h0 + 1 + i)) = _
    rw [am_outer c N h0 i, arrV_store]
    refine congrArg (arrV c N) (funext fun j => ?_)
    by_cases e : j = i
    · subst e
      simp [updV, va_rf]
    · by_cases h : j < i
      · simp [updV, e, h, Nat.lt_succ_of_lt h]
      · simp [updV, e, h, show ¬ j < i + 1 by omega]
theorem am_B.mna {E : am_E} {R : Room} {Z : am_Z} {pc : Nat} {lo : am_L} {st : List Value} {h : am_H} {rc rs : Nat} {r : am_Row} {i N M : Nat} {n k : Int32} (hf : am_find E.2.2.2 pc = some r) (hi : r.2.1 = .multianewarray i 2) (hw1 : Jvm.Cond.classLink E.2.2.1.1.cls i ("[" ++ (FieldType.array FieldType.int).toString) ∈ E.1.2) (hw2 : Jvm.Cond.arrayClass .int ∈ E.1.2)
    (hn : n = nI N) (hk : k = nI M) (hN : N ≤ 60000000) (hM : M ≤ 60000000)
    (kk : am_B E R Z (pc + 4) lo (.ref h.length :: st) ((h ++ [.inl (5, N, .inr (.inr (.inr (.inr fun j => if j < N then some (h.length + 1 + j) else none))))]) ++ List.replicate N (.inl (0, M, .inl fun _ => 0))) rc rs) : am_B E R Z pc lo (.int k :: .int n :: st) h (rc + (1 + N)) (rs + (N + N * M)) := by
  intro ok l D cA sb base p e s m args below meth c C H locs cells slots ls hR hS h1 h2 hl
  have K := fun H1 l1 a1 a2 => kk ok l D cA sb base p e s m args below meth c C H1 l1 (cells + 1 + N) (slots + N + N * M) ls a1 a2 (by omega) (by omega) hl
  obtain ⟨hm0, rfl⟩ := am_find_ok hf
  obtain ⟨hd, -, -⟩ := ok.2.2 r hm0
  obtain ⟨hx, hb, hml, hret, hown, hts, hK, hlk, hnm⟩ := C
  rw [hi] at hd
  have hN31 : N < 2 ^ 31 := by omega
  have hM31 : M < 2 ^ 31 := by omega
  subst hn; subst hk
  have cN := nI_clamp hN31
  have cM := nI_clamp hM31
  have hover : (Jvm.Cond.arrayOver (.array .int)).before args s = true := hK.2.2.2.2
  intro T hT Xs
  have hb' : c.code = E.2.2.1.2.1 := hb
  obtain ⟨vm₁, cA', comp, hW1, fA, fC, hO, hI, X', step⟩ := Xs.multianewarray2F hx hown (hts _ hw1) hover (hts _ hw2) (g := F0 m r.1 ls (.int (nI M) :: .int (nI N) :: st.map (am_cv sb base))) rfl (by rw [hb']; exact hd) rfl (nI_pos hN31) (nI_pos hM31) (by rw [cN]; omega) (by rw [cM]; show M * 4 ≤ _; omega) (by rw [cM]; omega) rfl rfl (by rw [cN]; omega) (by rw [cN, cM]; omega)
  rw [cN, cM] at X' step
  have ecI : comp = cA 0 := Option.some.inj (fC.symm.trans (hK.2.1 0 .int rfl rfl).2)
  have ec5 : cA' = cA 5 := Option.some.inj (fA.symm.trans (hK.2.1 5 (.array .int) rfl rfl).2)
  subst ecI; subst ec5
  generalize hF : Jvm.Free.Multi.fill (T.setVm vm₁) (cA 5) (cA 0) N M (defaultValue FieldType.int) N = F at X' step
  have hTh : (T.setVm vm₁).heap = H := hT
  obtain ⟨f1, f2, -, -⟩ := Jvm.Free.Multi.fill_facts (T.setVm vm₁) (cA 5) (cA 0) N M (defaultValue FieldType.int) N
  rw [hF, hTh] at f1 f2
  have hold : ∀ x : Nat, x < H.size → F.heap[x]? = H[x]? := fun x hx => by
    have := Jvm.Free.Multi.fill_old (T.setVm vm₁) (cA 5) (cA 0) N M (defaultValue FieldType.int) (a := x) (by rw [hTh]; exact hx) N
    rw [hF, hTh] at this
    exact this
  have hrow : ∀ j : Nat, j < N → F.heap[H.size + 1 + j]? = some (arrV (cA 0) M (fun _ => .int 0)) := fun j hj => by
    have := Jvm.Free.Multi.fill_inner (T.setVm vm₁) (cA 5) (cA 0) N M (defaultValue FieldType.int) N j hj
    rw [hF, hTh] at this
    rw [this, ← arrV_new]
    rfl
  rw [am_outer] at f2
  have hp := hR.pos
  have hnx := hR.next
  have hsz := hR.2.1
  have had : ∀ j, am_ad sb base (h.length + j) = H.size + j := by
    intro j
    obtain ⟨q, hq⟩ : ∃ q, h.length = q + 1 := ⟨h.length - 1, by omega⟩
    rw [hq, show q + 1 + j = (q + j) + 1 by omega]
    show base + (q + j) = _
    omega
  have hTg : T.heap.size = H.size := by rw [hT]
  have hR' : am_R D E.1.1 cA sb base s ((h ++ [.inl (5, N, .inr (.inr (.inr (.inr fun j => if j < N then some (h.length + 1 + j) else none))))]) ++ List.replicate N (.inl (0, M, .inl fun _ => 0))) F.heap := by
    refine ⟨hR.1, by rw [f1]; simp only [List.length_append, List.length_singleton, List.length_replicate]; omega, ?_, fun k0 c0 hk0 => ?_⟩
    · obtain ⟨x, hx⟩ := hR.2.2.1
      exact ⟨x, by rw [List.append_assoc, List.getElem?_append_left hp]; exact hx⟩
    · by_cases q1 : k0 < h.length
      · rw [List.append_assoc, List.getElem?_append_left q1] at hk0
        exact (hR.2.2.2 k0 c0 hk0).kept (hold _ (hR.lt hk0))
      · obtain ⟨j, rfl⟩ : ∃ j, k0 = h.length + j := ⟨k0 - h.length, by omega⟩
        rw [List.append_assoc, List.getElem?_append_right (by omega), show h.length + j - h.length = j by omega] at hk0
        rw [had]
        cases j with
        | zero =>
          cases hk0
          refine am_mk_q (by decide) ?_
          rw [Nat.add_zero, f2]
          refine congrArg some (congrArg (arrV (cA 5) N) (funext fun j => ?_))
          by_cases q2 : j < N
          · simp only [q2, if_true, Option.map_some]
            rw [show h.length + 1 + j = h.length + (1 + j) by omega, had, Nat.add_assoc _ 1 j]
          · simp [q2]
        | succ j =>
          rw [List.cons_append, List.getElem?_cons_succ, List.nil_append, List.getElem?_replicate] at hk0
          split at hk0
          · rename_i q2
            cases hk0
            refine am_mk_i (by decide) ?_
            rw [show H.size + (j + 1) = H.size + 1 + j by omega]
            exact hrow j q2
          · cases hk0
  have hS' : va_S (fun q => base ≤ q) s.heap F.heap locs :=
    ⟨by rw [f1]; have := hS.1; omega, fun q q1 q2 => by rw [hold q (Nat.lt_of_lt_of_le q1 hS.1)]; exact hS.2.1 q q1 q2, hS.2.2⟩
  obtain ⟨t, a1, b1⟩ := K F.heap _ hR' hS' F rfl X'
  refine ⟨t, step t ?_, b1⟩
  rw [hTg, ← hnx]
  exact a1
