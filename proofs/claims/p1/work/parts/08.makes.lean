/-! CONSTRUCTORS -/
theorem ap_get {h t : am_H} {n : Nat} {x : am_C} (hn : h[n]? = some x) : (h ++ t)[n]? = some x := (List.getElem?_append_left (List.getElem?_eq_some_iff.mp hn).1).trans hn
theorem ap_set {h t : am_H} {n : Nat} {x c : am_C} (hn : h[n]? = some x) : (h ++ t).set n c = h.set n c ++ t := List.set_append_left _ _ (List.getElem?_eq_some_iff.mp hn).1
theorem ap_ass {h s t : am_H} : (h ++ s) ++ t = h ++ (s ++ t) := List.append_assoc ..
theorem se_len {h : am_H} {n : Nat} {c : am_C} : (h.set n c).length = h.length := List.length_set
abbrev z_ (n : Nat) : am_C := .inl (0, n, .inl fun _ => 0)
set_option maxRecDepth 100000 in
set_option maxHeartbeats 4000000 in
theorem ct_NT_init (h : am_H) (a : Nat) (ha : h[a]? = some (.inr (1, [.int 0, .int 0, .null, .null, .null, .null, .null, .null]))) : am_Ct am_G0 m_NT_init 1 6 56 [.ref a] h (fun v h' => v = none ∧
    h' = h.set a (.inr (1, [.int 0, .int 0, .ref h.length, .ref (h.length + 1), .ref (h.length + 2), .ref (h.length + 3), .ref (h.length + 4), .ref (h.length + 5)])) ++ [z_ 10, z_ 10, z_ 10, z_ 10, z_ 8, z_ 8]) := by
  refine am_Ct.of (E := E_NT_init) e_NT_init (by decide) (Nat.le_of_ble_eq_true rfl) ?_
  refine am_B.run (hp := false) (sp := []) 200 rfl ?_
  refine am_B.obji rfl rfl ow_NT ow_1 ow_2 (Nat.le_of_ble_eq_true rfl) rfl ?_
  refine am_B.run (hp := false) (sp := []) 200 rfl ?_
  refine am_B.newI (n := 10) rfl rfl aw_int rfl (Nat.le_of_ble_eq_true rfl) ?_
  simp only [ap_ass, List.length_append, List.length_set, List.length_cons, List.length_nil, List.set_cons_zero, List.set_cons_succ, List.cons_append, List.nil_append, Nat.add_zero, Nat.zero_add, Nat.reduceAdd, Option.toList_none, Option.toList_some]
  refine am_B.run (hp := false) (sp := []) 200 rfl ?_
  refine am_B.put rfl rfl rfl (ap_get ha) rfl (Nat.le_of_ble_eq_true rfl) rfl (fun _ => rfl) ?_
  rw [ap_set ha]
  simp only [ap_ass, List.length_append, List.length_set, List.length_cons, List.length_nil, List.set_cons_zero, List.set_cons_succ, List.cons_append, List.nil_append, Nat.add_zero, Nat.zero_add, Nat.reduceAdd, Option.toList_none, Option.toList_some]
  refine am_B.run (hp := false) (sp := []) 200 rfl ?_
  refine am_B.newI (n := 10) rfl rfl aw_int rfl (Nat.le_of_ble_eq_true rfl) ?_
  simp only [ap_ass, List.length_append, List.length_set, List.length_cons, List.length_nil, List.set_cons_zero, List.set_cons_succ, List.cons_append, List.nil_append, Nat.add_zero, Nat.zero_add, Nat.reduceAdd, Option.toList_none, Option.toList_some]
  refine am_B.run (hp := false) (sp := []) 200 rfl ?_
  refine am_B.put rfl rfl rfl (ap_get (gs_s ha)) rfl (Nat.le_of_ble_eq_true rfl) rfl (fun _ => rfl) ?_
  rw [ap_set (gs_s ha), gs_ss]
  simp only [ap_ass, List.length_append, List.length_set, List.length_cons, List.length_nil, List.set_cons_zero, List.set_cons_succ, List.cons_append, List.nil_append, Nat.add_zero, Nat.zero_add, Nat.reduceAdd, Option.toList_none, Option.toList_some]
  refine am_B.run (hp := false) (sp := []) 200 rfl ?_
  refine am_B.newI (n := 10) rfl rfl aw_int rfl (Nat.le_of_ble_eq_true rfl) ?_
  simp only [ap_ass, List.length_append, List.length_set, List.length_cons, List.length_nil, List.set_cons_zero, List.set_cons_succ, List.cons_append, List.nil_append, Nat.add_zero, Nat.zero_add, Nat.reduceAdd, Option.toList_none, Option.toList_some]
  refine am_B.run (hp := false) (sp := []) 200 rfl ?_
  refine am_B.put rfl rfl rfl (ap_get (gs_s ha)) rfl (Nat.le_of_ble_eq_true rfl) rfl (fun _ => rfl) ?_
  rw [ap_set (gs_s ha), gs_ss]
  simp only [ap_ass, List.length_append, List.length_set, List.length_cons, List.length_nil, List.set_cons_zero, List.set_cons_succ, List.cons_append, List.nil_append, Nat.add_zero, Nat.zero_add, Nat.reduceAdd, Option.toList_none, Option.toList_some]
  refine am_B.run (hp := false) (sp := []) 200 rfl ?_
  refine am_B.newI (n := 10) rfl rfl aw_int rfl (Nat.le_of_ble_eq_true rfl) ?_
  simp only [ap_ass, List.length_append, List.length_set, List.length_cons, List.length_nil, List.set_cons_zero, List.set_cons_succ, List.cons_append, List.nil_append, Nat.add_zero, Nat.zero_add, Nat.reduceAdd, Option.toList_none, Option.toList_some]
  refine am_B.run (hp := false) (sp := []) 200 rfl ?_
  refine am_B.put rfl rfl rfl (ap_get (gs_s ha)) rfl (Nat.le_of_ble_eq_true rfl) rfl (fun _ => rfl) ?_
  rw [ap_set (gs_s ha), gs_ss]
  simp only [ap_ass, List.length_append, List.length_set, List.length_cons, List.length_nil, List.set_cons_zero, List.set_cons_succ, List.cons_append, List.nil_append, Nat.add_zero, Nat.zero_add, Nat.reduceAdd, Option.toList_none, Option.toList_some]
  refine am_B.run (hp := false) (sp := []) 200 rfl ?_
  refine am_B.newI (n := 8) rfl rfl aw_int rfl (Nat.le_of_ble_eq_true rfl) ?_
  simp only [ap_ass, List.length_append, List.length_set, List.length_cons, List.length_nil, List.set_cons_zero, List.set_cons_succ, List.cons_append, List.nil_append, Nat.add_zero, Nat.zero_add, Nat.reduceAdd, Option.toList_none, Option.toList_some]
  refine am_B.run (hp := false) (sp := []) 200 rfl ?_
  refine am_B.put rfl rfl rfl (ap_get (gs_s ha)) rfl (Nat.le_of_ble_eq_true rfl) rfl (fun _ => rfl) ?_
  rw [ap_set (gs_s ha), gs_ss]
  simp only [ap_ass, List.length_append, List.length_set, List.length_cons, List.length_nil, List.set_cons_zero, List.set_cons_succ, List.cons_append, List.nil_append, Nat.add_zero, Nat.zero_add, Nat.reduceAdd, Option.toList_none, Option.toList_some]
  refine am_B.run (hp := false) (sp := []) 200 rfl ?_
  refine am_B.newI (n := 8) rfl rfl aw_int rfl (Nat.le_of_ble_eq_true rfl) ?_
  simp only [ap_ass, List.length_append, List.length_set, List.length_cons, List.length_nil, List.set_cons_zero, List.set_cons_succ, List.cons_append, List.nil_append, Nat.add_zero, Nat.zero_add, Nat.reduceAdd, Option.toList_none, Option.toList_some]
  refine am_B.run (hp := false) (sp := []) 200 rfl ?_
  refine am_B.put rfl rfl rfl (ap_get (gs_s ha)) rfl (Nat.le_of_ble_eq_true rfl) rfl (fun _ => rfl) ?_
  rw [ap_set (gs_s ha), gs_ss]
  simp only [ap_ass, List.length_append, List.length_set, List.length_cons, List.length_nil, List.set_cons_zero, List.set_cons_succ, List.cons_append, List.nil_append, Nat.add_zero, Nat.zero_add, Nat.reduceAdd, Option.toList_none, Option.toList_some]
  refine am_B.run (hp := false) (sp := []) 200 rfl ?_
  exact am_B.vret rfl rfl rfl ⟨rfl, rfl⟩
set_option maxRecDepth 100000 in
set_option maxHeartbeats 4000000 in
theorem ct_MG_init (h : am_H) (a b : Nat) (ha : h[a]? = some (.inr (2, [.null, .null, .null, .null, .int 0, .int 0, .int 0]))) : am_Ct am_G0 m_MG_init 1 3 2400 [.ref a, .ref b] h (fun v h' => v = none ∧
    h' = h.set a (.inr (2, [.ref b, .ref h.length, .ref (h.length + 1), .ref (h.length + 2), .int 0, .int 0, .int 0])) ++ [z_ 200, z_ 200, z_ 2000]) := by
  refine am_Ct.of (E := E_MG_init) e_MG_init (by decide) (Nat.le_of_ble_eq_true rfl) ?_
  refine am_B.run (hp := false) (sp := []) 200 rfl ?_
  refine am_B.obji rfl rfl ow_MG ow_1 ow_2 (Nat.le_of_ble_eq_true rfl) rfl ?_
  refine am_B.run (hp := false) (sp := []) 200 rfl ?_
  refine am_B.newI (n := 200) rfl rfl aw_int rfl (Nat.le_of_ble_eq_true rfl) ?_
  simp only [ap_ass, List.length_append, List.length_set, List.length_cons, List.length_nil, List.set_cons_zero, List.set_cons_succ, List.cons_append, List.nil_append, Nat.add_zero, Nat.zero_add, Nat.reduceAdd, Option.toList_none, Option.toList_some]
  refine am_B.run (hp := false) (sp := []) 200 rfl ?_
  refine am_B.put rfl rfl rfl (ap_get ha) rfl (Nat.le_of_ble_eq_true rfl) rfl (fun _ => rfl) ?_
  rw [ap_set ha]
  simp only [ap_ass, List.length_append, List.length_set, List.length_cons, List.length_nil, List.set_cons_zero, List.set_cons_succ, List.cons_append, List.nil_append, Nat.add_zero, Nat.zero_add, Nat.reduceAdd, Option.toList_none, Option.toList_some]
  refine am_B.run (hp := false) (sp := []) 200 rfl ?_
  refine am_B.newI (n := 200) rfl rfl aw_int rfl (Nat.le_of_ble_eq_true rfl) ?_
  simp only [ap_ass, List.length_append, List.length_set, List.length_cons, List.length_nil, List.set_cons_zero, List.set_cons_succ, List.cons_append, List.nil_append, Nat.add_zero, Nat.zero_add, Nat.reduceAdd, Option.toList_none, Option.toList_some]
  refine am_B.run (hp := false) (sp := []) 200 rfl ?_
  refine am_B.put rfl rfl rfl (ap_get (gs_s ha)) rfl (Nat.le_of_ble_eq_true rfl) rfl (fun _ => rfl) ?_
  rw [ap_set (gs_s ha), gs_ss]
  simp only [ap_ass, List.length_append, List.length_set, List.length_cons, List.length_nil, List.set_cons_zero, List.set_cons_succ, List.cons_append, List.nil_append, Nat.add_zero, Nat.zero_add, Nat.reduceAdd, Option.toList_none, Option.toList_some]
  refine am_B.run (hp := false) (sp := []) 200 rfl ?_
  refine am_B.newI (n := 2000) rfl rfl aw_int rfl (Nat.le_of_ble_eq_true rfl) ?_
  simp only [ap_ass, List.length_append, List.length_set, List.length_cons, List.length_nil, List.set_cons_zero, List.set_cons_succ, List.cons_append, List.nil_append, Nat.add_zero, Nat.zero_add, Nat.reduceAdd, Option.toList_none, Option.toList_some]
  refine am_B.run (hp := false) (sp := []) 200 rfl ?_
  refine am_B.put rfl rfl rfl (ap_get (gs_s ha)) rfl (Nat.le_of_ble_eq_true rfl) rfl (fun _ => rfl) ?_
  rw [ap_set (gs_s ha), gs_ss]
  simp only [ap_ass, List.length_append, List.length_set, List.length_cons, List.length_nil, List.set_cons_zero, List.set_cons_succ, List.cons_append, List.nil_append, Nat.add_zero, Nat.zero_add, Nat.reduceAdd, Option.toList_none, Option.toList_some]
  refine am_B.run (hp := false) (sp := []) 200 rfl ?_
  refine am_B.put rfl rfl rfl (ap_get (gs_s ha)) rfl (Nat.le_of_ble_eq_true rfl) rfl (fun _ => rfl) ?_
  rw [ap_set (gs_s ha), gs_ss]
  simp only [ap_ass, List.length_append, List.length_set, List.length_cons, List.length_nil, List.set_cons_zero, List.set_cons_succ, List.cons_append, List.nil_append, Nat.add_zero, Nat.zero_add, Nat.reduceAdd, Option.toList_none, Option.toList_some]
  refine am_B.run (hp := false) (sp := []) 200 rfl ?_
  exact am_B.vret rfl rfl rfl ⟨rfl, rfl⟩
set_option maxRecDepth 100000 in
set_option maxHeartbeats 4000000 in
theorem ct_TR_init (h : am_H) (a : Nat) (ha : h[a]? = some (.inr (4, [.null, .int 0, .int 0, .int 0, .int 0, .int 0, .int 0, .null]))) : am_Ct am_G0 m_TR_init 1 2 24 [.ref a] h (fun v h' => v = none ∧
    h' = h.set a (.inr (4, [.ref h.length, .int 0, .int 0, .int 0, .int 0, .int 0, .int 0, .ref (h.length + 1)])) ++ [z_ 8, z_ 16]) := by
  refine am_Ct.of (E := E_TR_init) e_TR_init (by decide) (Nat.le_of_ble_eq_true rfl) ?_
  refine am_B.run (hp := false) (sp := []) 200 rfl ?_
  refine am_B.obji rfl rfl ow_TR ow_1 ow_2 (Nat.le_of_ble_eq_true rfl) rfl ?_
  refine am_B.run (hp := false) (sp := []) 200 rfl ?_
  refine am_B.newI (n := 8) rfl rfl aw_int rfl (Nat.le_of_ble_eq_true rfl) ?_
  simp only [ap_ass, List.length_append, List.length_set, List.length_cons, List.length_nil, List.set_cons_zero, List.set_cons_succ, List.cons_append, List.nil_append, Nat.add_zero, Nat.zero_add, Nat.reduceAdd, Option.toList_none, Option.toList_some]
  refine am_B.run (hp := false) (sp := []) 200 rfl ?_
  refine am_B.put rfl rfl rfl (ap_get ha) rfl (Nat.le_of_ble_eq_true rfl) rfl (fun _ => rfl) ?_
  rw [ap_set ha]
  simp only [ap_ass, List.length_append, List.length_set, List.length_cons, List.length_nil, List.set_cons_zero, List.set_cons_succ, List.cons_append, List.nil_append, Nat.add_zero, Nat.zero_add, Nat.reduceAdd, Option.toList_none, Option.toList_some]
  refine am_B.run (hp := false) (sp := []) 200 rfl ?_
  refine am_B.newI (n := 16) rfl rfl aw_int rfl (Nat.le_of_ble_eq_true rfl) ?_
  simp only [ap_ass, List.length_append, List.length_set, List.length_cons, List.length_nil, List.set_cons_zero, List.set_cons_succ, List.cons_append, List.nil_append, Nat.add_zero, Nat.zero_add, Nat.reduceAdd, Option.toList_none, Option.toList_some]
  refine am_B.run (hp := false) (sp := []) 200 rfl ?_
  refine am_B.put rfl rfl rfl (ap_get (gs_s ha)) rfl (Nat.le_of_ble_eq_true rfl) rfl (fun q => by cases q) ?_
  rw [ap_set (gs_s ha), gs_ss]
  simp only [ap_ass, List.length_append, List.length_set, List.length_cons, List.length_nil, List.set_cons_zero, List.set_cons_succ, List.cons_append, List.nil_append, Nat.add_zero, Nat.zero_add, Nat.reduceAdd, Option.toList_none, Option.toList_some]
  refine am_B.run (hp := false) (sp := []) 200 rfl ?_
  exact am_B.vret rfl rfl rfl ⟨rfl, rfl⟩
set_option maxRecDepth 100000 in
set_option maxHeartbeats 4000000 in
theorem ct_PF_init (h : am_H) (a b c d : Nat) (ha : h[a]? = some (.inr (3, [.null, .null, .null, .null, .null]))) : am_Ct am_G0 m_PF_init 1 11 1819 [.ref a, .ref b, .ref c, .ref d] h (fun v h' => v = none ∧
    h' = h.set a (.inr (3, [.ref b, .ref c, .ref d, .ref h.length, .ref (h.length + 1)])) ++ ([z_ 10, .inl (5, 9, .inr (.inr (.inr (.inr fun j => if j < 9 then some (h.length + 2 + j) else none))))] ++ List.replicate 9 (z_ 200))) := by
  refine am_Ct.of (E := E_PF_init) e_PF_init (by decide) (Nat.le_of_ble_eq_true rfl) ?_
  refine am_B.run (hp := false) (sp := []) 200 rfl ?_
  refine am_B.obji rfl rfl ow_PF ow_1 ow_2 (Nat.le_of_ble_eq_true rfl) rfl ?_
  refine am_B.run (hp := false) (sp := []) 200 rfl ?_
  refine am_B.newI (n := 10) rfl rfl aw_int rfl (Nat.le_of_ble_eq_true rfl) ?_
  simp only [ap_ass, List.length_append, List.length_set, List.length_cons, List.length_nil, List.set_cons_zero, List.set_cons_succ, List.cons_append, List.nil_append, Nat.add_zero, Nat.zero_add, Nat.reduceAdd, Option.toList_none, Option.toList_some]
  refine am_B.run (hp := false) (sp := []) 200 rfl ?_
  refine am_B.put rfl rfl rfl (ap_get ha) rfl (Nat.le_of_ble_eq_true rfl) rfl (fun _ => rfl) ?_
  rw [ap_set ha]
  simp only [ap_ass, List.length_append, List.length_set, List.length_cons, List.length_nil, List.set_cons_zero, List.set_cons_succ, List.cons_append, List.nil_append, Nat.add_zero, Nat.zero_add, Nat.reduceAdd, Option.toList_none, Option.toList_some]
  refine am_B.run (hp := false) (sp := []) 200 rfl ?_
  refine am_B.mna (N := 9) (M := 200) (rc := 0) (rs := 0) rfl rfl lw_PF_15 aw_int rfl rfl (Nat.le_of_ble_eq_true rfl) (Nat.le_of_ble_eq_true rfl) ?_
  simp only [ap_ass, List.length_append, List.length_set, List.length_cons, List.length_nil, List.set_cons_zero, List.set_cons_succ, List.cons_append, List.nil_append, Nat.add_zero, Nat.zero_add, Nat.reduceAdd, Option.toList_none, Option.toList_some]
  refine am_B.run (hp := false) (sp := []) 200 rfl ?_
  refine am_B.put rfl rfl rfl (ap_get (gs_s ha)) rfl (Nat.le_of_ble_eq_true rfl) rfl (fun _ => rfl) ?_
  rw [ap_set (gs_s ha), gs_ss]
  simp only [ap_ass, List.length_append, List.length_set, List.length_cons, List.length_nil, List.set_cons_zero, List.set_cons_succ, List.cons_append, List.nil_append, Nat.add_zero, Nat.zero_add, Nat.reduceAdd, Option.toList_none, Option.toList_some]
  refine am_B.run (hp := false) (sp := []) 200 rfl ?_
  refine am_B.put rfl rfl rfl (ap_get (gs_s ha)) rfl (Nat.le_of_ble_eq_true rfl) rfl (fun _ => rfl) ?_
  rw [ap_set (gs_s ha), gs_ss]
  simp only [ap_ass, List.length_append, List.length_set, List.length_cons, List.length_nil, List.set_cons_zero, List.set_cons_succ, List.cons_append, List.nil_append, Nat.add_zero, Nat.zero_add, Nat.reduceAdd, Option.toList_none, Option.toList_some]
  refine am_B.run (hp := false) (sp := []) 200 rfl ?_
  refine am_B.put rfl rfl rfl (ap_get (gs_s ha)) rfl (Nat.le_of_ble_eq_true rfl) rfl (fun _ => rfl) ?_
  rw [ap_set (gs_s ha), gs_ss]
  simp only [ap_ass, List.length_append, List.length_set, List.length_cons, List.length_nil, List.set_cons_zero, List.set_cons_succ, List.cons_append, List.nil_append, Nat.add_zero, Nat.zero_add, Nat.reduceAdd, Option.toList_none, Option.toList_some]
  refine am_B.run (hp := false) (sp := []) 200 rfl ?_
  refine am_B.put rfl rfl rfl (ap_get (gs_s ha)) rfl (Nat.le_of_ble_eq_true rfl) rfl (fun _ => rfl) ?_
  rw [ap_set (gs_s ha), gs_ss]
  simp only [ap_ass, List.length_append, List.length_set, List.length_cons, List.length_nil, List.set_cons_zero, List.set_cons_succ, List.cons_append, List.nil_append, Nat.add_zero, Nat.zero_add, Nat.reduceAdd, Option.toList_none, Option.toList_some]
  refine am_B.run (hp := false) (sp := []) 200 rfl ?_
  exact am_B.vret rfl rfl rfl ⟨rfl, rfl⟩
