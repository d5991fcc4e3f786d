/-! THE FRESH ALIGNER's methods that throw -/
set_option maxRecDepth 100000 in
set_option maxHeartbeats 4000000 in
theorem xx_link (h : am_H) (X : xF h) (a b c d : Int32) : am_CtX am_G0 m_TA_link 7 1 6 [.ref 1, .int a, .int b, .int c, .int d] h (fun _ _ => False) (xo "java/lang/IndexOutOfBoundsException" h) := by
  have h1 := X.2.1
  have h2 := X.2.2.1
  refine am_CtX.of (E := E_TA_link) e_TA_link (by decide) (Nat.le_of_ble_eq_true rfl) ?_
  refine am_B.run (hp := false) (sp := []) 200 rfl ?_
  refine am_B.callVX (rc := 0) (rs := 0) (ci := 0) (n := 1) (as := [.int a]) rfl rfl rfl (xt_requireTransition h a 0 (xbad_0 a) h1 h2) rfl rfl (by exact Nat.le_of_ble_eq_true rfl) rfl h1 rfl rfl (fun _ _ z => z.elim) (fun _ _ z => z)
set_option maxRecDepth 100000 in
set_option maxHeartbeats 4000000 in
theorem xx_setTokens (h : am_H) (X : xF h) (a b c : Int32) : am_CtX am_G0 m_TA_setTokens 7 1 6 [.ref 1, .int a, .int b, .int c] h (fun _ _ => False) (xo "java/lang/IndexOutOfBoundsException" h) := by
  have h1 := X.2.1
  have h2 := X.2.2.1
  refine am_CtX.of (E := E_TA_setTokens) e_TA_setTokens (by decide) (Nat.le_of_ble_eq_true rfl) ?_
  refine am_B.run (hp := false) (sp := []) 200 rfl ?_
  refine am_B.callVX (rc := 0) (rs := 0) (ci := 0) (n := 1) (as := [.int a]) rfl rfl rfl (xt_requirePlace h a 0 (xbad_0 a) h1 h2) rfl rfl (by exact Nat.le_of_ble_eq_true rfl) rfl h1 rfl rfl (fun _ _ z => z.elim) (fun _ _ z => z)
set_option maxRecDepth 100000 in
set_option maxHeartbeats 4000000 in
theorem xx_label (h : am_H) (X : xF h) (a : Int32) : am_CtX am_G0 m_TA_label 7 1 6 [.ref 1, .int a] h (fun _ _ => False) (xo "java/lang/IndexOutOfBoundsException" h) := by
  have h1 := X.2.1
  have h2 := X.2.2.1
  refine am_CtX.of (E := E_TA_label) e_TA_label (by decide) (Nat.le_of_ble_eq_true rfl) ?_
  refine am_B.run (hp := false) (sp := []) 200 rfl ?_
  refine am_B.callVX (rc := 0) (rs := 0) (ci := 0) (n := 1) (as := [.int a]) rfl rfl rfl (xt_requireTransition h a 0 (xbad_0 a) h1 h2) rfl rfl (by exact Nat.le_of_ble_eq_true rfl) rfl h1 rfl rfl (fun _ _ z => z.elim) (fun _ _ z => z)
set_option maxRecDepth 100000 in
set_option maxHeartbeats 4000000 in
theorem xx_setCost (h : am_H) (X : xF h) (a b : Int32) : am_CtX am_G0 m_TA_setCost 7 1 6 [.ref 1, .int a, .int b] h (fun _ _ => False) (xo "java/lang/IndexOutOfBoundsException" h) := by
  have h1 := X.2.1
  have h2 := X.2.2.1
  refine am_CtX.of (E := E_TA_setCost) e_TA_setCost (by decide) (Nat.le_of_ble_eq_true rfl) ?_
  refine am_B.run (hp := false) (sp := []) 200 rfl ?_
  refine am_B.callVX (rc := 0) (rs := 0) (ci := 0) (n := 1) (as := [.int a]) rfl rfl rfl (xt_requireTransition h a 0 (xbad_0 a) h1 h2) rfl rfl (by exact Nat.le_of_ble_eq_true rfl) rfl h1 rfl rfl (fun _ _ z => z.elim) (fun _ _ z => z)
set_option maxRecDepth 100000 in
set_option maxHeartbeats 4000000 in
theorem xx_length (h : am_H) (X : xF h) (a : Int32) : am_CtX am_G0 m_TA_length 7 1 6 [.ref 1, .int a] h (fun _ _ => False) (xo "java/lang/IndexOutOfBoundsException" h) := by
  have h1 := X.2.1
  have h2 := X.2.2.1
  refine am_CtX.of (E := E_TA_length) e_TA_length (by decide) (Nat.le_of_ble_eq_true rfl) ?_
  refine am_B.run (hp := false) (sp := []) 200 rfl ?_
  refine am_B.callVX (rc := 0) (rs := 0) (ci := 0) (n := 1) (as := [.int a]) rfl rfl rfl (xt_requireTrace h a 0 (xbad_0 a) h1) rfl rfl (by exact Nat.le_of_ble_eq_true rfl) rfl h1 rfl rfl (fun _ _ z => z.elim) (fun _ _ z => z)
set_option maxRecDepth 100000 in
set_option maxHeartbeats 4000000 in
theorem xx_alignedTrace (h : am_H) (X : xF h) (a : Int32) : am_CtX am_G0 m_TA_alignedTrace 7 1 6 [.ref 1, .int a] h (fun _ _ => False) (xo "java/lang/IndexOutOfBoundsException" h) := by
  have h1 := X.2.1
  have h2 := X.2.2.1
  refine am_CtX.of (E := E_TA_alignedTrace) e_TA_alignedTrace (by decide) (Nat.le_of_ble_eq_true rfl) ?_
  refine am_B.run (hp := false) (sp := []) 200 rfl ?_
  refine am_B.callVX (rc := 0) (rs := 0) (ci := 0) (n := 1) (as := [.int a]) rfl rfl rfl (xt_requireTrace h a 0 (xbad_0 a) h1) rfl rfl (by exact Nat.le_of_ble_eq_true rfl) rfl h1 rfl rfl (fun _ _ z => z.elim) (fun _ _ z => z)
set_option maxRecDepth 100000 in
set_option maxHeartbeats 4000000 in
theorem xx_cost (h : am_H) (X : xF h) (a : Int32) : am_CtX am_G0 m_TA_cost 8 1 6 [.ref 1, .int a] h (fun _ _ => False) (xo "java/lang/IndexOutOfBoundsException" h) := by
  have h1 := X.2.1
  have h2 := X.2.2.1
  refine am_CtX.of (E := E_TA_cost) e_TA_cost (by decide) (Nat.le_of_ble_eq_true rfl) ?_
  refine am_B.run (hp := false) (sp := []) 200 rfl ?_
  refine am_B.callVX (rc := 0) (rs := 0) (ci := 0) (n := 1) (as := [.int a]) rfl rfl rfl (xx_alignedTrace h X a) rfl rfl (by exact Nat.le_of_ble_eq_true rfl) rfl h1 rfl rfl (fun _ _ z => z.elim) (fun _ _ z => z)
set_option maxRecDepth 100000 in
set_option maxHeartbeats 4000000 in
theorem xx_moves (h : am_H) (X : xF h) (a : Int32) : am_CtX am_G0 m_TA_moves 8 1 6 [.ref 1, .int a] h (fun _ _ => False) (xo "java/lang/IndexOutOfBoundsException" h) := by
  have h1 := X.2.1
  have h2 := X.2.2.1
  refine am_CtX.of (E := E_TA_moves) e_TA_moves (by decide) (Nat.le_of_ble_eq_true rfl) ?_
  refine am_B.run (hp := false) (sp := []) 200 rfl ?_
  refine am_B.callVX (rc := 0) (rs := 0) (ci := 0) (n := 1) (as := [.int a]) rfl rfl rfl (xx_alignedTrace h X a) rfl rfl (by exact Nat.le_of_ble_eq_true rfl) rfl h1 rfl rfl (fun _ _ z => z.elim) (fun _ _ z => z)
set_option maxRecDepth 100000 in
set_option maxHeartbeats 4000000 in
theorem xx_worst (h : am_H) (X : xF h) (a : Int32) : am_CtX am_G0 m_TA_worst 8 1 6 [.ref 1, .int a] h (fun _ _ => False) (xo "java/lang/IndexOutOfBoundsException" h) := by
  have h1 := X.2.1
  have h2 := X.2.2.1
  refine am_CtX.of (E := E_TA_worst) e_TA_worst (by decide) (Nat.le_of_ble_eq_true rfl) ?_
  refine am_B.run (hp := false) (sp := []) 200 rfl ?_
  refine am_B.callVX (rc := 0) (rs := 0) (ci := 0) (n := 1) (as := [.int a]) rfl rfl rfl (xx_alignedTrace h X a) rfl rfl (by exact Nat.le_of_ble_eq_true rfl) rfl h1 rfl rfl (fun _ _ z => z.elim) (fun _ _ z => z)
set_option maxRecDepth 100000 in
set_option maxHeartbeats 4000000 in
theorem xx_fitness (h : am_H) (X : xF h) (a : Int32) : am_CtX am_G0 m_TA_fitness 8 1 6 [.ref 1, .int a] h (fun _ _ => False) (xo "java/lang/IndexOutOfBoundsException" h) := by
  have h1 := X.2.1
  have h2 := X.2.2.1
  refine am_CtX.of (E := E_TA_fitness) e_TA_fitness (by decide) (Nat.le_of_ble_eq_true rfl) ?_
  refine am_B.run (hp := false) (sp := []) 200 rfl ?_
  refine am_B.callVX (rc := 0) (rs := 0) (ci := 0) (n := 1) (as := [.int a]) rfl rfl rfl (xx_alignedTrace h X a) rfl rfl (by exact Nat.le_of_ble_eq_true rfl) rfl h1 rfl rfl (fun _ _ z => z.elim) (fun _ _ z => z)
set_option maxRecDepth 100000 in
set_option maxHeartbeats 4000000 in
theorem xx_move (h : am_H) (X : xF h) (a b c : Int32) : am_CtX am_G0 m_TA_move 8 1 6 [.ref 1, .int a, .int b, .int c] h (fun _ _ => False) (xo "java/lang/IndexOutOfBoundsException" h) := by
  have h1 := X.2.1
  have h2 := X.2.2.1
  refine am_CtX.of (E := E_TA_move) e_TA_move (by decide) (Nat.le_of_ble_eq_true rfl) ?_
  refine am_B.run (hp := false) (sp := []) 200 rfl ?_
  refine am_B.callVX (rc := 0) (rs := 0) (ci := 0) (n := 1) (as := [.int a]) rfl rfl rfl (xx_alignedTrace h X a) rfl rfl (by exact Nat.le_of_ble_eq_true rfl) rfl h1 rfl rfl (fun _ _ z => z.elim) (fun _ _ z => z)
set_option maxRecDepth 100000 in
set_option maxHeartbeats 4000000 in
theorem xx_enabled (h : am_H) (X : xF h) (a : Int32) (ha : xbad a 1) : am_CtX am_G0 m_TA_enabled 7 1 6 [.ref 1, .int a] h (fun _ _ => False) (xo "java/lang/IndexOutOfBoundsException" (hE h)) := by
  have h1 := X.2.1
  have h2 := X.2.2.1
  refine am_CtX.of (E := E_TA_enabled) e_TA_enabled (by decide) (Nat.le_of_ble_eq_true rfl) ?_
  refine am_B.run (hp := false) (sp := []) 200 rfl ?_
  refine am_B.callV (rc := 1) (rs := 6) (ci := 0) (n := 0) (as := []) rfl rfl rfl (xt_requireMarkings h X) rfl rfl (by exact Nat.le_of_ble_eq_true rfl) rfl h1 rfl rfl (fun v h' z => ?_)
  obtain ⟨rfl, rfl⟩ := z
  refine am_B.run (hp := false) (sp := []) 200 rfl ?_
  refine am_B.callVX (rc := 0) (rs := 0) (ci := 0) (n := 1) (as := [.int a]) rfl rfl rfl (xt_requireMarking _ a 1 ha X.e1 X.e9) rfl rfl (by exact Nat.le_of_ble_eq_true rfl) rfl X.e1 rfl rfl (fun _ _ z => z.elim) (fun _ _ z => z)
set_option maxRecDepth 100000 in
set_option maxHeartbeats 4000000 in
theorem xx_away (h : am_H) (X : xF h) (a : Int32) (ha : xbad a 1) : am_CtX am_G0 m_TA_away 7 1 6 [.ref 1, .int a] h (fun _ _ => False) (xo "java/lang/IndexOutOfBoundsException" (hE h)) := by
  have h1 := X.2.1
  have h2 := X.2.2.1
  refine am_CtX.of (E := E_TA_away) e_TA_away (by decide) (Nat.le_of_ble_eq_true rfl) ?_
  refine am_B.run (hp := false) (sp := []) 200 rfl ?_
  refine am_B.callV (rc := 1) (rs := 6) (ci := 0) (n := 0) (as := []) rfl rfl rfl (xt_requireMarkings h X) rfl rfl (by exact Nat.le_of_ble_eq_true rfl) rfl h1 rfl rfl (fun v h' z => ?_)
  obtain ⟨rfl, rfl⟩ := z
  refine am_B.run (hp := false) (sp := []) 200 rfl ?_
  refine am_B.callVX (rc := 0) (rs := 0) (ci := 0) (n := 1) (as := [.int a]) rfl rfl rfl (xt_requireMarking _ a 1 ha X.e1 X.e9) rfl rfl (by exact Nat.le_of_ble_eq_true rfl) rfl X.e1 rfl rfl (fun _ _ z => z.elim) (fun _ _ z => z)
set_option maxRecDepth 100000 in
set_option maxHeartbeats 4000000 in
theorem xx_tokensA (h : am_H) (X : xF h) (a b : Int32) (ha : xbad a 1) : am_CtX am_G0 m_TA_tokens 7 1 6 [.ref 1, .int a, .int b] h (fun _ _ => False) (xo "java/lang/IndexOutOfBoundsException" (hE h)) := by
  have h1 := X.2.1
  have h2 := X.2.2.1
  refine am_CtX.of (E := E_TA_tokens) e_TA_tokens (by decide) (Nat.le_of_ble_eq_true rfl) ?_
  refine am_B.run (hp := false) (sp := []) 200 rfl ?_
  refine am_B.callV (rc := 1) (rs := 6) (ci := 0) (n := 0) (as := []) rfl rfl rfl (xt_requireMarkings h X) rfl rfl (by exact Nat.le_of_ble_eq_true rfl) rfl h1 rfl rfl (fun v h' z => ?_)
  obtain ⟨rfl, rfl⟩ := z
  refine am_B.run (hp := false) (sp := []) 200 rfl ?_
  refine am_B.callVX (rc := 0) (rs := 0) (ci := 0) (n := 1) (as := [.int a]) rfl rfl rfl (xt_requireMarking _ a 1 ha X.e1 X.e9) rfl rfl (by exact Nat.le_of_ble_eq_true rfl) rfl X.e1 rfl rfl (fun _ _ z => z.elim) (fun _ _ z => z)
set_option maxRecDepth 100000 in
set_option maxHeartbeats 4000000 in
theorem xx_tokensB (h : am_H) (X : xF h) (b : Int32) : am_CtX am_G0 m_TA_tokens 7 1 6 [.ref 1, .int (nI 0), .int b] h (fun _ _ => False) (xo "java/lang/IndexOutOfBoundsException" (hE h)) := by
  have h1 := X.2.1
  have h2 := X.2.2.1
  refine am_CtX.of (E := E_TA_tokens) e_TA_tokens (by decide) (Nat.le_of_ble_eq_true rfl) ?_
  refine am_B.run (hp := false) (sp := []) 200 rfl ?_
  refine am_B.callV (rc := 1) (rs := 6) (ci := 0) (n := 0) (as := []) rfl rfl rfl (xt_requireMarkings h X) rfl rfl (by exact Nat.le_of_ble_eq_true rfl) rfl h1 rfl rfl (fun v h' z => ?_)
  obtain ⟨rfl, rfl⟩ := z
  refine am_B.run (hp := false) (sp := []) 200 rfl ?_
  refine am_B.callV (rc := 1) (rs := 6) (ci := 0) (n := 1) (as := [.int (nI 0)]) rfl rfl rfl (ct_TA_requireMarking 0 _ 0 1 (nI 0) (nI 0) (nI 1) (nI 0) (by decide) (by decide) X.e1 X.e9) rfl rfl (by exact Nat.le_of_ble_eq_true rfl) rfl X.e1 rfl rfl (fun v h' z => ?_)
  obtain ⟨rfl, rfl⟩ := z
  refine am_B.run (hp := false) (sp := []) 200 rfl ?_
  refine am_B.callVX (rc := 0) (rs := 0) (ci := 0) (n := 1) (as := [.int b]) rfl rfl rfl (xt_requirePlace _ b 0 (xbad_0 b) X.e1 X.e2) rfl rfl (by exact Nat.le_of_ble_eq_true rfl) rfl X.e1 rfl rfl (fun _ _ z => z.elim) (fun _ _ z => z)
set_option maxRecDepth 100000 in
set_option maxHeartbeats 4000000 in
theorem xx_nextA (h : am_H) (X : xF h) (a b : Int32) (ha : xbad a 1) : am_CtX am_G0 m_TA_next 7 1 6 [.ref 1, .int a, .int b] h (fun _ _ => False) (xo "java/lang/IndexOutOfBoundsException" (hE h)) := by
  have h1 := X.2.1
  have h2 := X.2.2.1
  refine am_CtX.of (E := E_TA_next) e_TA_next (by decide) (Nat.le_of_ble_eq_true rfl) ?_
  refine am_B.run (hp := false) (sp := []) 200 rfl ?_
  refine am_B.callV (rc := 1) (rs := 6) (ci := 0) (n := 0) (as := []) rfl rfl rfl (xt_requireMarkings h X) rfl rfl (by exact Nat.le_of_ble_eq_true rfl) rfl h1 rfl rfl (fun v h' z => ?_)
  obtain ⟨rfl, rfl⟩ := z
  refine am_B.run (hp := false) (sp := []) 200 rfl ?_
  refine am_B.callVX (rc := 0) (rs := 0) (ci := 0) (n := 1) (as := [.int a]) rfl rfl rfl (xt_requireMarking _ a 1 ha X.e1 X.e9) rfl rfl (by exact Nat.le_of_ble_eq_true rfl) rfl X.e1 rfl rfl (fun _ _ z => z.elim) (fun _ _ z => z)
set_option maxRecDepth 100000 in
set_option maxHeartbeats 4000000 in
theorem xx_nextB (h : am_H) (X : xF h) (b : Int32) : am_CtX am_G0 m_TA_next 7 1 6 [.ref 1, .int (nI 0), .int b] h (fun _ _ => False) (xo "java/lang/IndexOutOfBoundsException" (hE h)) := by
  have h1 := X.2.1
  have h2 := X.2.2.1
  refine am_CtX.of (E := E_TA_next) e_TA_next (by decide) (Nat.le_of_ble_eq_true rfl) ?_
  refine am_B.run (hp := false) (sp := []) 200 rfl ?_
  refine am_B.callV (rc := 1) (rs := 6) (ci := 0) (n := 0) (as := []) rfl rfl rfl (xt_requireMarkings h X) rfl rfl (by exact Nat.le_of_ble_eq_true rfl) rfl h1 rfl rfl (fun v h' z => ?_)
  obtain ⟨rfl, rfl⟩ := z
  refine am_B.run (hp := false) (sp := []) 200 rfl ?_
  refine am_B.callV (rc := 1) (rs := 6) (ci := 0) (n := 1) (as := [.int (nI 0)]) rfl rfl rfl (ct_TA_requireMarking 0 _ 0 1 (nI 0) (nI 0) (nI 1) (nI 0) (by decide) (by decide) X.e1 X.e9) rfl rfl (by exact Nat.le_of_ble_eq_true rfl) rfl X.e1 rfl rfl (fun v h' z => ?_)
  obtain ⟨rfl, rfl⟩ := z
  refine am_B.run (hp := false) (sp := []) 200 rfl ?_
  refine am_B.callVX (rc := 0) (rs := 0) (ci := 0) (n := 1) (as := [.int b]) rfl rfl rfl (xt_requireTransition _ b 0 (xbad_0 b) X.e1 X.e2) rfl rfl (by exact Nat.le_of_ble_eq_true rfl) rfl X.e1 rfl rfl (fun _ _ z => z.elim) (fun _ _ z => z)
set_option maxRecDepth 100000 in
set_option maxHeartbeats 4000000 in
theorem xx_event (h : am_H) (X : xF h) (a : Int32) (ha : xbad a 6) : am_CtX am_G0 m_TA_event 7 1 6 [.ref 1, .int a] h (fun _ _ => False) (xo "java/lang/IllegalArgumentException" h) := by
  have h1 := X.2.1
  have h2 := X.2.2.1
  refine am_CtX.of (E := E_TA_event) e_TA_event (by decide) (Nat.le_of_ble_eq_true rfl) ?_
  refine am_B.run (hp := false) (sp := []) 200 rfl ?_
  refine am_B.callS (rc := 1) (rs := 6) (n := 1) (as := [.int a]) rfl rfl rfl (xt_isNoLabel 0 h a ha) rfl rfl (by exact Nat.le_of_ble_eq_true rfl) rfl rfl rfl (fun v h' z => ?_)
  obtain ⟨rfl, rfl⟩ := z
  refine am_B.if_eq rfl rfl (fun z => absurd z (by decide)) (fun _ => ?_)
  exact am_B.thr (rc := 0) (rs := 0) (cls := "java/lang/IllegalArgumentException") (names := x_nm) rfl rfl rfl rfl rfl rfl rfl rfl rfl rfl x_fA x_fn x_wA (List.mem_of_getElem? (i := 9) rfl) (by decide) (by decide) (fun d => ⟨rfl, d, rfl⟩)
set_option maxRecDepth 100000 in
set_option maxHeartbeats 4000000 in
theorem xx_setLabelCostA (h : am_H) (X : xF h) (a b : Int32) (ha : xbad a 6) : am_CtX am_G0 m_TA_setLabelCost 7 1 6 [.ref 1, .int a, .int b] h (fun _ _ => False) (xo "java/lang/IndexOutOfBoundsException" h) := by
  have h1 := X.2.1
  have h2 := X.2.2.1
  refine am_CtX.of (E := E_TA_setLabelCost) e_TA_setLabelCost (by decide) (Nat.le_of_ble_eq_true rfl) ?_
  refine am_B.run (hp := false) (sp := []) 200 rfl ?_
  refine am_B.callS (rc := 1) (rs := 6) (n := 1) (as := [.int a]) rfl rfl rfl (xt_isNoLabel 0 h a ha) rfl rfl (by exact Nat.le_of_ble_eq_true rfl) rfl rfl rfl (fun v h' z => ?_)
  obtain ⟨rfl, rfl⟩ := z
  refine am_B.if_eq rfl rfl (fun z => absurd z (by decide)) (fun _ => ?_)
  exact am_B.thr (rc := 0) (rs := 0) (cls := "java/lang/IndexOutOfBoundsException") (names := x_nm) rfl rfl rfl rfl rfl rfl rfl rfl rfl rfl x_fO x_fn x_wO (List.mem_of_getElem? (i := 15) rfl) (by decide) (by decide) (fun d => ⟨rfl, d, rfl⟩)
set_option maxRecDepth 100000 in
set_option maxHeartbeats 4000000 in
theorem xx_addTransition (h : am_H) (X : xF h) (a : Int32) (ha : xbad a 6) (hm : ¬ a = -1) : am_CtX am_G0 m_TA_addTransition 7 1 6 [.ref 1, .int a] h (fun _ _ => False) (xo "java/lang/IllegalArgumentException" h) := by
  have h1 := X.2.1
  have h2 := X.2.2.1
  refine am_CtX.of (E := E_TA_addTransition) e_TA_addTransition (by decide) (Nat.le_of_ble_eq_true rfl) ?_
  refine am_B.run (hp := false) (sp := []) 200 rfl ?_
  refine am_B.icmp_eq rfl rfl (fun z => absurd z hm) (fun _ => ?_)
  refine am_B.run (hp := false) (sp := []) 200 rfl ?_
  refine am_B.callS (rc := 1) (rs := 6) (n := 1) (as := [.int a]) rfl rfl rfl (xt_isNoLabel 0 h a ha) rfl rfl (by exact Nat.le_of_ble_eq_true rfl) rfl rfl rfl (fun v h' z => ?_)
  obtain ⟨rfl, rfl⟩ := z
  refine am_B.if_eq rfl rfl (fun z => absurd z (by decide)) (fun _ => ?_)
  exact am_B.thr (rc := 0) (rs := 0) (cls := "java/lang/IllegalArgumentException") (names := x_nm) rfl rfl rfl rfl rfl rfl rfl rfl rfl rfl x_fA x_fn x_wA (List.mem_of_getElem? (i := 1) rfl) (by decide) (by decide) (fun d => ⟨rfl, d, rfl⟩)
set_option maxRecDepth 100000 in
set_option maxHeartbeats 4000000 in
theorem xx_setLabelCostB (h : am_H) (X : xF h) (l : Nat) (hl : l < 6) (b : Int32) (hb : xbad b 10) : am_CtX am_G0 m_TA_setLabelCost 7 1 6 [.ref 1, .int (nI l), .int b] h (fun _ _ => False) (xo "java/lang/IllegalArgumentException" h) := by
  have h1 := X.2.1
  have h2 := X.2.2.1
  refine am_CtX.of (E := E_TA_setLabelCost) e_TA_setLabelCost (by decide) (Nat.le_of_ble_eq_true rfl) ?_
  refine am_B.run (hp := false) (sp := []) 200 rfl ?_
  refine am_B.callS (rc := 1) (rs := 6) (n := 1) (as := [.int (nI l)]) rfl rfl rfl (ct_TA_isNoLabel 0 h l hl) rfl rfl (by exact Nat.le_of_ble_eq_true rfl) rfl rfl rfl (fun v h' z => ?_)
  obtain ⟨rfl, rfl⟩ := z
  refine am_B.if_eq rfl rfl (fun _ => ?_) (fun z => absurd rfl z)
  refine am_B.run (hp := false) (sp := []) 200 rfl ?_
  refine am_B.callSX (rc := 0) (rs := 0) (n := 1) (as := [.int b]) rfl rfl rfl (xt_requireCost h' b hb) rfl rfl (by exact Nat.le_of_ble_eq_true rfl) rfl rfl rfl (fun _ _ z => z.elim) (fun _ _ z => z)
set_option maxRecDepth 100000 in
set_option maxHeartbeats 4000000 in
theorem xx_dropTrace (h : am_H) (X : xF h)  : am_CtX am_G0 m_TA_dropTrace 7 1 6 [.ref 1] h (fun _ _ => False) (xo "java/lang/IllegalStateException" h) := by
  have h1 := X.2.1
  have h2 := X.2.2.1
  refine am_CtX.of (E := E_TA_dropTrace) e_TA_dropTrace (by decide) (Nat.le_of_ble_eq_true rfl) ?_
  refine am_B.run (hp := false) (sp := []) 200 rfl ?_
  refine am_B.get rfl rfl rfl (by first | assumption | exact gs_s (by first | assumption | exact gs_s (by first | assumption | exact gs_s (by assumption) | (refine gs_n (by decide) ?_; assumption)) | (refine gs_n (by decide) ?_; first | assumption | exact gs_s (by assumption) | (refine gs_n (by decide) ?_; assumption))) | (refine gs_n (by decide) ?_; first | assumption | exact gs_s (by first | assumption | exact gs_s (by assumption) | (refine gs_n (by decide) ?_; assumption)) | (refine gs_n (by decide) ?_; first | assumption | exact gs_s (by assumption) | (refine gs_n (by decide) ?_; assumption)))) rfl rfl ?_
  refine am_B.if_ne rfl rfl (fun z => absurd rfl z) (fun _ => ?_)
  exact am_B.thr (rc := 0) (rs := 0) (cls := "java/lang/IllegalStateException") (names := x_nm) rfl rfl rfl rfl rfl rfl rfl rfl rfl rfl x_fS x_fn x_wS (List.mem_of_getElem? (i := 13) rfl) (by decide) (by decide) (fun d => ⟨rfl, d, rfl⟩)
set_option maxRecDepth 100000 in
set_option maxHeartbeats 4000000 in
theorem xx_store (h : am_H) (X : xF h) (a : Int32) (ha : xbad a 100) : am_CtX am_G0 m_TA_store 7 1 6 [.ref 1, .int a] h (fun _ _ => False) (xo "java/lang/IllegalArgumentException" h) := by
  have h1 := X.2.1
  have h2 := X.2.2.1
  refine am_CtX.of (E := E_TA_store) e_TA_store (by decide) (Nat.le_of_ble_eq_true rfl) ?_
  have J : am_B E_TA_store (am_rm 7 1 6) (am_ZX E_TA_store 1 6 (fun _ _ => False) (xo "java/lang/IllegalArgumentException" h)) 10 [some (.ref 1), some (.int a)] [] h 1 6 := by
    exact am_B.thr (rc := 0) (rs := 0) (cls := "java/lang/IllegalArgumentException") (names := x_nm) rfl rfl rfl rfl rfl rfl rfl rfl rfl rfl x_fA x_fn x_wA (List.mem_of_getElem? (i := 11) rfl) (by decide) (by decide) (fun d => ⟨rfl, d, rfl⟩)
  refine am_B.run (hp := false) (sp := []) 200 rfl ?_
  rcases ha with ha | ⟨j, q1, q2, rfl⟩
  · exact am_B.if_lt rfl rfl (fun _ => J) (fun z => absurd ha z)
  · refine am_B.if_lt rfl rfl (fun z => absurd z (nI_nlt (Nat.zero_le _) q2)) (fun _ => ?_)
    refine am_B.run (hp := false) (sp := []) 200 rfl ?_
    refine am_B.icmp_le rfl rfl (fun z => absurd (Int32.not_lt.mpr z) (fun q => q (nI_lt (show 99 < j by omega) q2))) (fun _ => J)
set_option maxRecDepth 100000 in
set_option maxHeartbeats 4000000 in
theorem xx_count (h : am_H) (X : xF h) (a : Int32) (ha : xbad a 3) : am_CtX am_G0 m_TA_count 7 1 6 [.ref 1, .int a] h (fun _ _ => False) (xo "java/lang/IndexOutOfBoundsException" h) := by
  have h1 := X.2.1
  have h2 := X.2.2.1
  refine am_CtX.of (E := E_TA_count) e_TA_count (by decide) (Nat.le_of_ble_eq_true rfl) ?_
  refine am_B.run (hp := false) (sp := []) 200 rfl ?_
  refine am_B.tswOut (tgt := 49) de_count ?_ rfl ?_
  · rcases ha with ha | ⟨j, q1, q2, rfl⟩
    · left
      have := Int32.lt_iff_toInt_lt.mp ha
      exact this
    · right
      rw [nI_toInt q2]
      show (2 : Int) < (j : Int)
      omega
  exact am_B.thr (rc := 0) (rs := 0) (cls := "java/lang/IndexOutOfBoundsException") (names := x_nm) rfl rfl rfl rfl rfl rfl rfl rfl rfl rfl x_fO x_fn x_wO (List.mem_of_getElem? (i := 6) rfl) (by decide) (by decide) (fun d => ⟨rfl, d, rfl⟩)

