set_option maxRecDepth 100000 in
set_option maxHeartbeats 4000000 in
theorem lc_addPlace (nm : String) (xs : Nat → Int32) (h : am_H) (X : xF h) (M : mF h) (h0 : h[0]? = some (.inl (99, 5, .inl xs))) (h69 : h[69]? = some (la fun _ => 0)) (h70 : h[70]? = some (da fun _ => 0)) : lB nm 176 [some (.ref 0), some (.ref 1), some (.ref 53), some (.ref 69), some (.ref 70), some (.int (nI 0)), none, none, none] [] h 3 406 := by
  refine lw_sub (rows := r_LW_law_0 ++ (r_LW_law_1)) (am_all_app ok_LW_law_0 (ok_LW_law_1)) ?_
  refine am_B.run (hp := false) (sp := []) 200 rfl ?_
  refine am_B.callSW (rc := 2) (rs := 400) (M := m_LW_addPlace) (n := 2) (as := [.ref 1, .ref 69]) rfl rfl kw1_addPlace kw2_addPlace kw3_addPlace kw5_LW kw4_addPlace (ls_addPlace h X (fun _ => 0) h69) rfl rfl (by exact Nat.le_of_ble_eq_true rfl) rfl rfl rfl (fun v h' z => ?_)
  obtain ⟨rfl, o1, g, hg, hg0⟩ := z
  have M1 : mF h' := M.of o1
  have h01 := (o1.2 0 (by have := M.1; omega) (Or.inl rfl)).trans h0
  refine am_B.run (hp := false) (sp := []) 200 rfl ?_
  refine am_B.callV (rc := 2) (rs := 400) (ci := 5) (n := 0) (as := []) rfl rfl rfl (mc_addPlace _ M1) rfl rfl (by exact Nat.le_of_ble_eq_true rfl) rfl M1.2.1 rfl rfl (fun v h2 z => ?_)
  obtain ⟨rfl, p1, p2, vs, p3, p4⟩ := z
  have h02 := (p2 0 (Or.inl rfl)).trans h01
  refine am_B.run (hp := false) (sp := []) 200 rfl ?_
  refine am_B.callV (rc := 2) (rs := 400) (ci := 5) (n := 0) (as := []) rfl rfl rfl (mc_thrown _ 0 vs p3 p4) rfl rfl (by exact Nat.le_of_ble_eq_true rfl) rfl p3 rfl rfl (fun v h3 z => ?_)
  obtain ⟨rfl, rfl⟩ := z
  refine am_B.run (hp := false) (sp := []) 200 rfl ?_
  refine am_B.icmp_eq rfl rfl (fun _ => ?_) (fun z => absurd rfl z)
  refine am_B.run (hp := false) (sp := []) 200 rfl ?_
  refine am_B.if_ne rfl rfl (fun z => absurd rfl z) (fun _ => ?_)
  refine am_B.run (hp := false) (sp := []) 200 rfl ?_
  refine am_B.ald rfl ((p2 69 (by decide)).trans hg) (vp_n (show 0 < 1 by decide) rfl) rfl ?_
  rw [nI_clamp (show 0 < 2 ^ 31 by decide), hg0]
  refine am_B.run (hp := false) (sp := []) 200 rfl ?_
  refine am_B.if_eq rfl rfl (fun _ => ?_) (fun z => absurd (by first | decide | rfl | decide +kernel) z)
  refine am_B.run (hp := false) (sp := [1893]) 200 rfl ?_
  exact lw_up (lc_end nm xs _ h02 _ _ _ _ _)
