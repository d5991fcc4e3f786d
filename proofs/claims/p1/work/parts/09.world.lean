/-! THE WORLD that TraceAligner() makes: 0 the script, 1 the aligner, 2 its net (3..8 its rows), 9 its graph (10 codes, 11 enabled sets, 12 followers), 13 what labels cost, 14 the finder (15 weights, 16 rest, 17..25 its rows), 26 the buffer, 27 the traces, 28 + 3 k trace k (its labels, its path), 52 fired sets -/
abbrev ia (n : Nat) (f : Nat → Int32) : am_C := .inl (0, n, .inl f)
abbrev ra (t n : Nat) (f : Nat → Option Nat) : am_C := .inl (t, n, .inr (.inr (.inr (.inr f))))
abbrev c_TA (nb nt : Int32) : am_C := .inr (0, [.ref 2, .ref 9, .ref 14, .ref 13, .ref 26, .int nb, .ref 27, .int nt, .ref 52])
abbrev c_NT (pc tc : Int32) : am_C := .inr (1, [.int pc, .int tc, .ref 3, .ref 4, .ref 5, .ref 6, .ref 7, .ref 8])
abbrev c_MG (ex sz la : Int32) : am_C := .inr (2, [.ref 2, .ref 10, .ref 11, .ref 12, .int ex, .int sz, .int la])
abbrev c_PF : am_C := .inr (3, [.ref 2, .ref 9, .ref 13, .ref 15, .ref 16])
abbrev c_TR (i : Nat) (sz tm al lc wc mc : Int32) (p : Nat) : am_C := .inr (4, [.ref (29 + 3 * i), .int sz, .int tm, .int al, .int lc, .int wc, .int mc, .ref p])
abbrev rs_ : Nat → Option Nat := fun j => if j < 9 then some (17 + j) else none
abbrev ts_ : Nat → Option Nat := fun j => if j < 8 then some (28 + 3 * j) else none
def W0 (sc : am_C) : am_H := [sc, c_TA 0 0, c_NT 0 0, z_ 10, z_ 10, z_ 10, z_ 10, z_ 8, z_ 8, c_MG 0 0 0, z_ 200, z_ 200, z_ 2000, ia 6 (fun j => if j < 6 then nI 1 else 0), c_PF, z_ 10, ra 5 9 rs_,
  z_ 200, z_ 200, z_ 200, z_ 200, z_ 200, z_ 200, z_ 200, z_ 200, z_ 200, z_ 8, ra 4 8 ts_,
  c_TR 0 0 0 0 0 0 0 30, z_ 8, z_ 16, c_TR 1 0 0 0 0 0 0 33, z_ 8, z_ 16, c_TR 2 0 0 0 0 0 0 36, z_ 8, z_ 16, c_TR 3 0 0 0 0 0 0 39, z_ 8, z_ 16, c_TR 4 0 0 0 0 0 0 42, z_ 8, z_ 16, c_TR 5 0 0 0 0 0 0 45, z_ 8, z_ 16, c_TR 6 0 0 0 0 0 0 48, z_ 8, z_ 16, c_TR 7 0 0 0 0 0 0 51, z_ 8, z_ 16, z_ 200]
theorem ts_key : va_up (va_up (va_up (va_up (va_up (va_up (va_up (va_up (fun _ => none) 0 (some 28)) 1 (some 31)) 2 (some 34)) 3 (some 37)) 4 (some 40)) 5 (some 43)) 6 (some 46)) 7 (some 49) = ts_ := by
  funext j
  by_cases h : j < 8
  · obtain rfl | rfl | rfl | rfl | rfl | rfl | rfl | rfl : j = 0 ∨ j = 1 ∨ j = 2 ∨ j = 3 ∨ j = 4 ∨ j = 5 ∨ j = 6 ∨ j = 7 := by omega
    all_goals rfl
  · simp only [ts_, h, if_false, va_up, show j ≠ 0 by omega, show j ≠ 1 by omega, show j ≠ 2 by omega, show j ≠ 3 by omega, show j ≠ 4 by omega, show j ≠ 5 by omega, show j ≠ 6 by omega, show j ≠ 7 by omega]
set_option maxRecDepth 100000 in
set_option maxHeartbeats 4000000 in
theorem ct_TA_init (sc : am_C) : am_Ct am_G0 m_TA_init 2 51 4773 [.ref 1] [sc, .inr (0, [.null, .null, .null, .null, .null, .int 0, .null, .int 0, .null])] (fun v h' => v = none ∧ h' = W0 sc) := by
  refine am_Ct.of (E := E_TA_init) e_TA_init (by decide) (Nat.le_of_ble_eq_true rfl) ?_
  refine am_B.run (hp := false) (sp := []) 200 rfl ?_
  refine am_B.obji rfl rfl ow_TA ow_1 ow_2 (Nat.le_of_ble_eq_true rfl) rfl ?_
  refine am_B.run (hp := false) (sp := []) 200 rfl ?_
  refine am_B.new (q := (7, 1, [.int 0, .int 0, .null, .null, .null, .null, .null, .null])) rfl rfl rfl ?_
  refine am_B.run (hp := false) (sp := []) 200 rfl ?_
  refine am_B.callIN (ci := 1) (n := 0) (as := []) rfl rfl rfl (ct_NT_init _ 2 (by rfl)) rfl (by rfl) (by exact Nat.le_of_ble_eq_true rfl) (by rfl) (by rfl) (by rfl) (fun v h' q => ?_)
  obtain ⟨rfl, rfl⟩ := q
  simp only [List.set_cons_succ, List.set_cons_zero, List.cons_append, List.nil_append, List.length_cons, List.length_nil, Nat.reduceAdd, List.replicate_succ, List.replicate_zero, Option.toList_none, Option.toList_some]
  refine am_B.put rfl rfl rfl rfl rfl (Nat.le_of_ble_eq_true rfl) rfl (fun _ => rfl) ?_
  simp only [List.set_cons_succ, List.set_cons_zero, List.cons_append, List.nil_append, List.length_cons, List.length_nil, Nat.reduceAdd, List.replicate_succ, List.replicate_zero, Option.toList_none, Option.toList_some]
  refine am_B.run (hp := true) (sp := []) 200 rfl ?_
  refine am_B.new (q := (16, 2, [.null, .null, .null, .null, .int 0, .int 0, .int 0])) rfl rfl rfl ?_
  refine am_B.run (hp := true) (sp := []) 200 rfl ?_
  refine am_B.callI (ci := 2) (n := 1) (as := [.ref 2]) rfl rfl rfl (ct_MG_init _ 9 2 (by rfl)) rfl (by rfl) (by exact Nat.le_of_ble_eq_true rfl) (by rfl) (by rfl) (by rfl) (fun v h' q => ?_)
  obtain ⟨rfl, rfl⟩ := q
  simp only [List.set_cons_succ, List.set_cons_zero, List.cons_append, List.nil_append, List.length_cons, List.length_nil, Nat.reduceAdd, List.replicate_succ, List.replicate_zero, Option.toList_none, Option.toList_some]
  refine am_B.put rfl rfl rfl rfl rfl (Nat.le_of_ble_eq_true rfl) rfl (fun _ => rfl) ?_
  simp only [List.set_cons_succ, List.set_cons_zero, List.cons_append, List.nil_append, List.length_cons, List.length_nil, Nat.reduceAdd, List.replicate_succ, List.replicate_zero, Option.toList_none, Option.toList_some]
  refine am_B.run (hp := true) (sp := []) 200 rfl ?_
  refine am_B.newI (n := 6) rfl rfl aw_int rfl (Nat.le_of_ble_eq_true rfl) ?_
  simp only [List.set_cons_succ, List.set_cons_zero, List.cons_append, List.nil_append, List.length_cons, List.length_nil, Nat.reduceAdd, List.replicate_succ, List.replicate_zero, Option.toList_none, Option.toList_some]
  refine am_B.put rfl rfl rfl rfl rfl (Nat.le_of_ble_eq_true rfl) rfl (fun _ => rfl) ?_
  simp only [List.set_cons_succ, List.set_cons_zero, List.cons_append, List.nil_append, List.length_cons, List.length_nil, Nat.reduceAdd, List.replicate_succ, List.replicate_zero, Option.toList_none, Option.toList_some]
  refine am_B.run (hp := true) (sp := []) 200 rfl ?_
  refine am_B.callS (ci := 0) (n := 2) (as := [.ref 13, .int (nI 1)]) rfl rfl rfl (ct_AR_fill 0 _ 13 6 (fun _ => 0) (nI 1) (by rfl) (by decide)) rfl (by rfl) (by exact Nat.le_of_ble_eq_true rfl) (by rfl) (by rfl) (by rfl) (fun v h' q => ?_)
  obtain ⟨rfl, rfl⟩ := q
  simp only [List.set_cons_succ, List.set_cons_zero, List.cons_append, List.nil_append, List.length_cons, List.length_nil, Nat.reduceAdd, List.replicate_succ, List.replicate_zero, Option.toList_none, Option.toList_some]
  refine am_B.run (hp := true) (sp := []) 200 rfl ?_
  refine am_B.new (q := (35, 3, [.null, .null, .null, .null, .null])) rfl rfl rfl ?_
  refine am_B.run (hp := true) (sp := []) 200 rfl ?_
  refine am_B.callI (ci := 3) (n := 3) (as := [.ref 2, .ref 9, .ref 13]) rfl rfl rfl (ct_PF_init _ 14 2 9 13 (by rfl)) rfl (by rfl) (by exact Nat.le_of_ble_eq_true rfl) (by rfl) (by rfl) (by rfl) (fun v h' q => ?_)
  obtain ⟨rfl, rfl⟩ := q
  simp only [List.set_cons_succ, List.set_cons_zero, List.cons_append, List.nil_append, List.length_cons, List.length_nil, Nat.reduceAdd, List.replicate_succ, List.replicate_zero, Option.toList_none, Option.toList_some]
  refine am_B.put rfl rfl rfl rfl rfl (Nat.le_of_ble_eq_true rfl) rfl (fun _ => rfl) ?_
  simp only [List.set_cons_succ, List.set_cons_zero, List.cons_append, List.nil_append, List.length_cons, List.length_nil, Nat.reduceAdd, List.replicate_succ, List.replicate_zero, Option.toList_none, Option.toList_some]
  refine am_B.run (hp := true) (sp := []) 200 rfl ?_
  refine am_B.newI (n := 8) rfl rfl aw_int rfl (Nat.le_of_ble_eq_true rfl) ?_
  simp only [List.set_cons_succ, List.set_cons_zero, List.cons_append, List.nil_append, List.length_cons, List.length_nil, Nat.reduceAdd, List.replicate_succ, List.replicate_zero, Option.toList_none, Option.toList_some]
  refine am_B.put rfl rfl rfl rfl rfl (Nat.le_of_ble_eq_true rfl) rfl (fun _ => rfl) ?_
  simp only [List.set_cons_succ, List.set_cons_zero, List.cons_append, List.nil_append, List.length_cons, List.length_nil, Nat.reduceAdd, List.replicate_succ, List.replicate_zero, Option.toList_none, Option.toList_some]
  refine am_B.run (hp := true) (sp := []) 200 rfl ?_
  refine am_B.newT (n := 8) rfl rfl lw_TA_47 rfl (Nat.le_of_ble_eq_true rfl) ?_
  simp only [List.set_cons_succ, List.set_cons_zero, List.cons_append, List.nil_append, List.length_cons, List.length_nil, Nat.reduceAdd, List.replicate_succ, List.replicate_zero, Option.toList_none, Option.toList_some]
  refine am_B.put rfl rfl rfl rfl rfl (Nat.le_of_ble_eq_true rfl) rfl (fun _ => rfl) ?_
  simp only [List.set_cons_succ, List.set_cons_zero, List.cons_append, List.nil_append, List.length_cons, List.length_nil, Nat.reduceAdd, List.replicate_succ, List.replicate_zero, Option.toList_none, Option.toList_some]
  refine am_B.run (hp := true) (sp := [88]) 200 rfl ?_
  refine am_B.run (hp := true) (sp := []) 200 rfl ?_
  refine am_B.icmp_ge rfl rfl (fun q => absurd q (by decide)) (fun _ => ?_)
  refine am_B.run (hp := true) (sp := []) 200 rfl ?_
  refine am_B.new (q := (47, 4, [.null, .int 0, .int 0, .int 0, .int 0, .int 0, .int 0, .null])) rfl rfl rfl ?_
  refine am_B.run (hp := true) (sp := []) 200 rfl ?_
  refine am_B.callIN (ci := 4) (n := 0) (as := []) rfl rfl rfl (ct_TR_init _ 28 (by rfl)) rfl (by rfl) (by exact Nat.le_of_ble_eq_true rfl) (by rfl) (by rfl) (by rfl) (fun v h' q => ?_)
  obtain ⟨rfl, rfl⟩ := q
  simp only [List.set_cons_succ, List.set_cons_zero, List.cons_append, List.nil_append, List.length_cons, List.length_nil, Nat.reduceAdd, List.replicate_succ, List.replicate_zero, Option.toList_none, Option.toList_some]
  refine am_B.aast (b := 28) (ci := 4) rfl rfl rfl rfl rfl (vp_nI (k := 0) (by decide) (by decide)) ?_
  simp only [List.set_cons_succ, List.set_cons_zero, List.cons_append, List.nil_append, List.length_cons, List.length_nil, Nat.reduceAdd, List.replicate_succ, List.replicate_zero, Option.toList_none, Option.toList_some]
  refine am_B.run (hp := true) (sp := [88]) 200 rfl ?_
  refine am_B.run (hp := true) (sp := []) 200 rfl ?_
  refine am_B.icmp_ge rfl rfl (fun q => absurd q (by decide)) (fun _ => ?_)
  refine am_B.run (hp := true) (sp := []) 200 rfl ?_
  refine am_B.new (q := (47, 4, [.null, .int 0, .int 0, .int 0, .int 0, .int 0, .int 0, .null])) rfl rfl rfl ?_
  refine am_B.run (hp := true) (sp := []) 200 rfl ?_
  refine am_B.callIN (ci := 4) (n := 0) (as := []) rfl rfl rfl (ct_TR_init _ 31 (by rfl)) rfl (by rfl) (by exact Nat.le_of_ble_eq_true rfl) (by rfl) (by rfl) (by rfl) (fun v h' q => ?_)
  obtain ⟨rfl, rfl⟩ := q
  simp only [List.set_cons_succ, List.set_cons_zero, List.cons_append, List.nil_append, List.length_cons, List.length_nil, Nat.reduceAdd, List.replicate_succ, List.replicate_zero, Option.toList_none, Option.toList_some]
  refine am_B.aast (b := 31) (ci := 4) rfl rfl rfl rfl rfl (vp_nI (k := 1) (by decide) (by decide)) ?_
  simp only [List.set_cons_succ, List.set_cons_zero, List.cons_append, List.nil_append, List.length_cons, List.length_nil, Nat.reduceAdd, List.replicate_succ, List.replicate_zero, Option.toList_none, Option.toList_some]
  refine am_B.run (hp := true) (sp := [88]) 200 rfl ?_
  refine am_B.run (hp := true) (sp := []) 200 rfl ?_
  refine am_B.icmp_ge rfl rfl (fun q => absurd q (by decide)) (fun _ => ?_)
  refine am_B.run (hp := true) (sp := []) 200 rfl ?_
  refine am_B.new (q := (47, 4, [.null, .int 0, .int 0, .int 0, .int 0, .int 0, .int 0, .null])) rfl rfl rfl ?_
  refine am_B.run (hp := true) (sp := []) 200 rfl ?_
  refine am_B.callIN (ci := 4) (n := 0) (as := []) rfl rfl rfl (ct_TR_init _ 34 (by rfl)) rfl (by rfl) (by exact Nat.le_of_ble_eq_true rfl) (by rfl) (by rfl) (by rfl) (fun v h' q => ?_)
  obtain ⟨rfl, rfl⟩ := q
  simp only [List.set_cons_succ, List.set_cons_zero, List.cons_append, List.nil_append, List.length_cons, List.length_nil, Nat.reduceAdd, List.replicate_succ, List.replicate_zero, Option.toList_none, Option.toList_some]
  refine am_B.aast (b := 34) (ci := 4) rfl rfl rfl rfl rfl (vp_nI (k := 2) (by decide) (by decide)) ?_
  simp only [List.set_cons_succ, List.set_cons_zero, List.cons_append, List.nil_append, List.length_cons, List.length_nil, Nat.reduceAdd, List.replicate_succ, List.replicate_zero, Option.toList_none, Option.toList_some]
  refine am_B.run (hp := true) (sp := [88]) 200 rfl ?_
  refine am_B.run (hp := true) (sp := []) 200 rfl ?_
  refine am_B.icmp_ge rfl rfl (fun q => absurd q (by decide)) (fun _ => ?_)
  refine am_B.run (hp := true) (sp := []) 200 rfl ?_
  refine am_B.new (q := (47, 4, [.null, .int 0, .int 0, .int 0, .int 0, .int 0, .int 0, .null])) rfl rfl rfl ?_
  refine am_B.run (hp := true) (sp := []) 200 rfl ?_
  refine am_B.callIN (ci := 4) (n := 0) (as := []) rfl rfl rfl (ct_TR_init _ 37 (by rfl)) rfl (by rfl) (by exact Nat.le_of_ble_eq_true rfl) (by rfl) (by rfl) (by rfl) (fun v h' q => ?_)
  obtain ⟨rfl, rfl⟩ := q
  simp only [List.set_cons_succ, List.set_cons_zero, List.cons_append, List.nil_append, List.length_cons, List.length_nil, Nat.reduceAdd, List.replicate_succ, List.replicate_zero, Option.toList_none, Option.toList_some]
  refine am_B.aast (b := 37) (ci := 4) rfl rfl rfl rfl rfl (vp_nI (k := 3) (by decide) (by decide)) ?_
  simp only [List.set_cons_succ, List.set_cons_zero, List.cons_append, List.nil_append, List.length_cons, List.length_nil, Nat.reduceAdd, List.replicate_succ, List.replicate_zero, Option.toList_none, Option.toList_some]
  refine am_B.run (hp := true) (sp := [88]) 200 rfl ?_
  refine am_B.run (hp := true) (sp := []) 200 rfl ?_
  refine am_B.icmp_ge rfl rfl (fun q => absurd q (by decide)) (fun _ => ?_)
  refine am_B.run (hp := true) (sp := []) 200 rfl ?_
  refine am_B.new (q := (47, 4, [.null, .int 0, .int 0, .int 0, .int 0, .int 0, .int 0, .null])) rfl rfl rfl ?_
  refine am_B.run (hp := true) (sp := []) 200 rfl ?_
  refine am_B.callIN (ci := 4) (n := 0) (as := []) rfl rfl rfl (ct_TR_init _ 40 (by rfl)) rfl (by rfl) (by exact Nat.le_of_ble_eq_true rfl) (by rfl) (by rfl) (by rfl) (fun v h' q => ?_)
  obtain ⟨rfl, rfl⟩ := q
  simp only [List.set_cons_succ, List.set_cons_zero, List.cons_append, List.nil_append, List.length_cons, List.length_nil, Nat.reduceAdd, List.replicate_succ, List.replicate_zero, Option.toList_none, Option.toList_some]
  refine am_B.aast (b := 40) (ci := 4) rfl rfl rfl rfl rfl (vp_nI (k := 4) (by decide) (by decide)) ?_
  simp only [List.set_cons_succ, List.set_cons_zero, List.cons_append, List.nil_append, List.length_cons, List.length_nil, Nat.reduceAdd, List.replicate_succ, List.replicate_zero, Option.toList_none, Option.toList_some]
  refine am_B.run (hp := true) (sp := [88]) 200 rfl ?_
  refine am_B.run (hp := true) (sp := []) 200 rfl ?_
  refine am_B.icmp_ge rfl rfl (fun q => absurd q (by decide)) (fun _ => ?_)
  refine am_B.run (hp := true) (sp := []) 200 rfl ?_
  refine am_B.new (q := (47, 4, [.null, .int 0, .int 0, .int 0, .int 0, .int 0, .int 0, .null])) rfl rfl rfl ?_
  refine am_B.run (hp := true) (sp := []) 200 rfl ?_
  refine am_B.callIN (ci := 4) (n := 0) (as := []) rfl rfl rfl (ct_TR_init _ 43 (by rfl)) rfl (by rfl) (by exact Nat.le_of_ble_eq_true rfl) (by rfl) (by rfl) (by rfl) (fun v h' q => ?_)
  obtain ⟨rfl, rfl⟩ := q
  simp only [List.set_cons_succ, List.set_cons_zero, List.cons_append, List.nil_append, List.length_cons, List.length_nil, Nat.reduceAdd, List.replicate_succ, List.replicate_zero, Option.toList_none, Option.toList_some]
  refine am_B.aast (b := 43) (ci := 4) rfl rfl rfl rfl rfl (vp_nI (k := 5) (by decide) (by decide)) ?_
  simp only [List.set_cons_succ, List.set_cons_zero, List.cons_append, List.nil_append, List.length_cons, List.length_nil, Nat.reduceAdd, List.replicate_succ, List.replicate_zero, Option.toList_none, Option.toList_some]
  refine am_B.run (hp := true) (sp := [88]) 200 rfl ?_
  refine am_B.run (hp := true) (sp := []) 200 rfl ?_
  refine am_B.icmp_ge rfl rfl (fun q => absurd q (by decide)) (fun _ => ?_)
  refine am_B.run (hp := true) (sp := []) 200 rfl ?_
  refine am_B.new (q := (47, 4, [.null, .int 0, .int 0, .int 0, .int 0, .int 0, .int 0, .null])) rfl rfl rfl ?_
  refine am_B.run (hp := true) (sp := []) 200 rfl ?_
  refine am_B.callIN (ci := 4) (n := 0) (as := []) rfl rfl rfl (ct_TR_init _ 46 (by rfl)) rfl (by rfl) (by exact Nat.le_of_ble_eq_true rfl) (by rfl) (by rfl) (by rfl) (fun v h' q => ?_)
  obtain ⟨rfl, rfl⟩ := q
  simp only [List.set_cons_succ, List.set_cons_zero, List.cons_append, List.nil_append, List.length_cons, List.length_nil, Nat.reduceAdd, List.replicate_succ, List.replicate_zero, Option.toList_none, Option.toList_some]
  refine am_B.aast (b := 46) (ci := 4) rfl rfl rfl rfl rfl (vp_nI (k := 6) (by decide) (by decide)) ?_
  simp only [List.set_cons_succ, List.set_cons_zero, List.cons_append, List.nil_append, List.length_cons, List.length_nil, Nat.reduceAdd, List.replicate_succ, List.replicate_zero, Option.toList_none, Option.toList_some]
  refine am_B.run (hp := true) (sp := [88]) 200 rfl ?_
  refine am_B.run (hp := true) (sp := []) 200 rfl ?_
  refine am_B.icmp_ge rfl rfl (fun q => absurd q (by decide)) (fun _ => ?_)
  refine am_B.run (hp := true) (sp := []) 200 rfl ?_
  refine am_B.new (q := (47, 4, [.null, .int 0, .int 0, .int 0, .int 0, .int 0, .int 0, .null])) rfl rfl rfl ?_
  refine am_B.run (hp := true) (sp := []) 200 rfl ?_
  refine am_B.callIN (ci := 4) (n := 0) (as := []) rfl rfl rfl (ct_TR_init _ 49 (by rfl)) rfl (by rfl) (by exact Nat.le_of_ble_eq_true rfl) (by rfl) (by rfl) (by rfl) (fun v h' q => ?_)
  obtain ⟨rfl, rfl⟩ := q
  simp only [List.set_cons_succ, List.set_cons_zero, List.cons_append, List.nil_append, List.length_cons, List.length_nil, Nat.reduceAdd, List.replicate_succ, List.replicate_zero, Option.toList_none, Option.toList_some]
  refine am_B.aast (b := 49) (ci := 4) rfl rfl rfl rfl rfl (vp_nI (k := 7) (by decide) (by decide)) ?_
  simp only [List.set_cons_succ, List.set_cons_zero, List.cons_append, List.nil_append, List.length_cons, List.length_nil, Nat.reduceAdd, List.replicate_succ, List.replicate_zero, Option.toList_none, Option.toList_some]
  refine am_B.run (hp := true) (sp := [88]) 200 rfl ?_
  refine am_B.run (hp := true) (sp := []) 200 rfl ?_
  refine am_B.icmp_ge rfl rfl (fun _ => ?_) (fun q => absurd (by decide) q)
  refine am_B.run (hp := true) (sp := []) 200 rfl ?_
  refine am_B.newI (n := 200) rfl rfl aw_int rfl (Nat.le_of_ble_eq_true rfl) ?_
  simp only [List.set_cons_succ, List.set_cons_zero, List.cons_append, List.nil_append, List.length_cons, List.length_nil, Nat.reduceAdd, List.replicate_succ, List.replicate_zero, Option.toList_none, Option.toList_some]
  refine am_B.put rfl rfl rfl rfl rfl (Nat.le_of_ble_eq_true rfl) rfl (fun _ => rfl) ?_
  simp only [List.set_cons_succ, List.set_cons_zero, List.cons_append, List.nil_append, List.length_cons, List.length_nil, Nat.reduceAdd, List.replicate_succ, List.replicate_zero, Option.toList_none, Option.toList_some]
  refine am_B.run (hp := true) (sp := []) 200 rfl ?_
  refine am_B.vret rfl rfl rfl ⟨rfl, ?_⟩
  unfold W0
  rw [← ts_key]
  rfl
