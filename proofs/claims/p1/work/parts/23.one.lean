set_option maxRecDepth 100000 in
set_option maxHeartbeats 4000000 in
theorem lc_addTransitionN (nm : String) (xs : Nat → Int32) (h : am_H) (X : xF h) (M : mF h) (h0 : h[0]? = some (.inl (99, 5, .inl xs))) (h69 : h[69]? = some (la fun _ => 0)) (h70 : h[70]? = some (da fun _ => 0)) (e1 : xs 1 = (-1)) : lB nm 220 [some (.ref 0), some (.ref 1), some (.ref 53), some (.ref 69), some (.ref 70), some (.int (nI 0)), none, none, none] [] h 3 406 := by
  refine lw_sub (rows := r_LW_law_1 ++ (r_LW_law_2)) (am_all_app ok_LW_law_1 (ok_LW_law_2)) ?_
  refine am_B.run (hp := false) (sp := []) 200 rfl ?_
  rw [show nI 0 + nI 1 = nI 1 from nI_add 0 1]
  refine am_B.ald rfl h0 (vp_nI (n := 5) (show 1 < 5 by decide) (Nat.le_of_ble_eq_true rfl)) rfl ?_
  rw [nI_clamp (show 1 < 2 ^ 31 by decide), e1]
  refine am_B.run (hp := false) (sp := []) 200 rfl ?_
  refine am_B.callSW (rc := 2) (rs := 400) (M := m_LW_addTransition) (n := 3) (as := [.ref 1, .int (-1), .ref 69]) rfl rfl kw1_addTransition kw2_addTransition kw3_addTransition kw5_LW kw4_addTransition (ls_addTransition h X (-1) (Or.inl rfl) (fun _ => 0) h69) rfl rfl (by exact Nat.le_of_ble_eq_true rfl) rfl rfl rfl (fun v h' z => ?_)
  obtain ⟨rfl, o1, g, hg, hg0⟩ := z
  have M1 : mF h' := M.of o1
  have h01 := (o1.2 0 (by have := M.1; omega) (Or.inl rfl)).trans h0
  refine am_B.run (hp := false) (sp := []) 200 rfl ?_
  rw [show nI 0 + nI 1 = nI 1 from nI_add 0 1]
  refine am_B.ald rfl h01 (vp_nI (n := 5) (show 1 < 5 by decide) (Nat.le_of_ble_eq_true rfl)) rfl ?_
  rw [nI_clamp (show 1 < 2 ^ 31 by decide), e1]
  refine am_B.run (hp := false) (sp := []) 200 rfl ?_
  refine am_B.callV (rc := 2) (rs := 400) (ci := 5) (n := 1) (as := [.int (-1)]) rfl rfl rfl (mc_addTransitionN _ M1) rfl rfl (by exact Nat.le_of_ble_eq_true rfl) rfl M1.2.1 rfl rfl (fun v h2 z => ?_)
  obtain ⟨rfl, p1, p2, vs, p3, p4⟩ := z
  have h02 := (p2 0 (Or.inl rfl)).trans h01
  refine am_B.run (hp := false) (sp := []) 200 rfl ?_
  refine am_B.callV (rc := 2) (rs := 400) (ci := 5) (n := 0) (as := []) rfl rfl rfl (mc_thrown _ 0 vs p3 p4) rfl rfl (by exact Nat.le_of_ble_eq_true rfl) rfl p3 rfl rfl (fun v h3 z => ?_)
  obtain ⟨rfl, rfl⟩ := z
  refine am_B.run (hp := false) (sp := []) 200 rfl ?_
  refine am_B.icmp_eq rfl rfl (fun _ => ?_) (fun z => absurd rfl z)
  refine am_B.run (hp := false) (sp := []) 200 rfl ?_
  refine am_B.if_ne rfl rfl (fun z => absurd rfl z) (fun _ => ?_)
  refine am_B.run (hp := false) (sp := []) 200 rfl ?_
  refine am_B.ald rfl ((p2 69 (by decide)).trans hg) (vp_n (show 0 < 1 by decide) rfl) rfl ?_
  rw [nI_clamp (show 0 < 2 ^ 31 by decide), hg0]
  refine am_B.run (hp := false) (sp := []) 200 rfl ?_
  refine am_B.if_eq rfl rfl (fun _ => ?_) (fun z => absurd (by first | decide | rfl | decide +kernel) z)
  refine am_B.run (hp := false) (sp := [1893]) 200 rfl ?_
  exact lw_up (lc_end nm xs _ h02 _ _ _ _ _)
set_option maxRecDepth 100000 in
set_option maxHeartbeats 4000000 in
theorem lc_addTransitionL (nm : String) (xs : Nat → Int32) (h : am_H) (X : xF h) (M : mF h) (h0 : h[0]? = some (.inl (99, 5, .inl xs))) (h69 : h[69]? = some (la fun _ => 0)) (h70 : h[70]? = some (da fun _ => 0)) (l : Nat) (hl : l < 6) (e1 : xs 1 = (nI l)) : lB nm 220 [some (.ref 0), some (.ref 1), some (.ref 53), some (.ref 69), some (.ref 70), some (.int (nI 0)), none, none, none] [] h 3 406 := by
  refine lw_sub (rows := r_LW_law_1 ++ (r_LW_law_2)) (am_all_app ok_LW_law_1 (ok_LW_law_2)) ?_
  refine am_B.run (hp := false) (sp := []) 200 rfl ?_
  rw [show nI 0 + nI 1 = nI 1 from nI_add 0 1]
  refine am_B.ald rfl h0 (vp_nI (n := 5) (show 1 < 5 by decide) (Nat.le_of_ble_eq_true rfl)) rfl ?_
  rw [nI_clamp (show 1 < 2 ^ 31 by decide), e1]
  refine am_B.run (hp := false) (sp := []) 200 rfl ?_
  refine am_B.callSW (rc := 2) (rs := 400) (M := m_LW_addTransition) (n := 3) (as := [.ref 1, .int (nI l), .ref 69]) rfl rfl kw1_addTransition kw2_addTransition kw3_addTransition kw5_LW kw4_addTransition (ls_addTransition h X (nI l) (Or.inr ⟨l, hl, rfl⟩) (fun _ => 0) h69) rfl rfl (by exact Nat.le_of_ble_eq_true rfl) rfl rfl rfl (fun v h' z => ?_)
  obtain ⟨rfl, o1, g, hg, hg0⟩ := z
  have M1 : mF h' := M.of o1
  have h01 := (o1.2 0 (by have := M.1; omega) (Or.inl rfl)).trans h0
  refine am_B.run (hp := false) (sp := []) 200 rfl ?_
  rw [show nI 0 + nI 1 = nI 1 from nI_add 0 1]
  refine am_B.ald rfl h01 (vp_nI (n := 5) (show 1 < 5 by decide) (Nat.le_of_ble_eq_true rfl)) rfl ?_
  rw [nI_clamp (show 1 < 2 ^ 31 by decide), e1]
  refine am_B.run (hp := false) (sp := []) 200 rfl ?_
  refine am_B.callV (rc := 2) (rs := 400) (ci := 5) (n := 1) (as := [.int (nI l)]) rfl rfl rfl (mc_addTransitionL _ M1 l hl) rfl rfl (by exact Nat.le_of_ble_eq_true rfl) rfl M1.2.1 rfl rfl (fun v h2 z => ?_)
  obtain ⟨rfl, p1, p2, vs, p3, p4⟩ := z
  have h02 := (p2 0 (Or.inl rfl)).trans h01
  refine am_B.run (hp := false) (sp := []) 200 rfl ?_
  refine am_B.callV (rc := 2) (rs := 400) (ci := 5) (n := 0) (as := []) rfl rfl rfl (mc_thrown _ 0 vs p3 p4) rfl rfl (by exact Nat.le_of_ble_eq_true rfl) rfl p3 rfl rfl (fun v h3 z => ?_)
  obtain ⟨rfl, rfl⟩ := z
  refine am_B.run (hp := false) (sp := []) 200 rfl ?_
  refine am_B.icmp_eq rfl rfl (fun _ => ?_) (fun z => absurd rfl z)
  refine am_B.run (hp := false) (sp := []) 200 rfl ?_
  refine am_B.if_ne rfl rfl (fun z => absurd rfl z) (fun _ => ?_)
  refine am_B.run (hp := false) (sp := []) 200 rfl ?_
  refine am_B.ald rfl ((p2 69 (by decide)).trans hg) (vp_n (show 0 < 1 by decide) rfl) rfl ?_
  rw [nI_clamp (show 0 < 2 ^ 31 by decide), hg0]
  refine am_B.run (hp := false) (sp := []) 200 rfl ?_
  refine am_B.if_eq rfl rfl (fun _ => ?_) (fun z => absurd (by first | decide | rfl | decide +kernel) z)
  refine am_B.run (hp := false) (sp := [1893]) 200 rfl ?_
  exact lw_up (lc_end nm xs _ h02 _ _ _ _ _)
set_option maxRecDepth 100000 in
set_option maxHeartbeats 4000000 in
theorem lc_addTransitionB (nm : String) (xs : Nat → Int32) (h : am_H) (X : xF h) (M : mF h) (h0 : h[0]? = some (.inl (99, 5, .inl xs))) (h69 : h[69]? = some (la fun _ => 0)) (h70 : h[70]? = some (da fun _ => 0)) (hx : xbad (xs 1) 6) (hm : ¬ xs 1 = -1) : lB nm 220 [some (.ref 0), some (.ref 1), some (.ref 53), some (.ref 69), some (.ref 70), some (.int (nI 0)), none, none, none] [] h 3 406 := by
  refine lw_sub (rows := r_LW_law_1 ++ (r_LW_law_2)) (am_all_app ok_LW_law_1 (ok_LW_law_2)) ?_
  refine am_B.run (hp := false) (sp := []) 200 rfl ?_
  rw [show nI 0 + nI 1 = nI 1 from nI_add 0 1]
  refine am_B.ald rfl h0 (vp_nI (n := 5) (show 1 < 5 by decide) (Nat.le_of_ble_eq_true rfl)) rfl ?_
  rw [nI_clamp (show 1 < 2 ^ 31 by decide)]
  refine am_B.run (hp := false) (sp := []) 200 rfl ?_
  refine am_B.callSW (rc := 2) (rs := 400) (M := m_LW_addTransition) (n := 3) (as := [.ref 1, .int (xs 1), .ref 69]) rfl rfl kw1_addTransition kw2_addTransition kw3_addTransition kw5_LW kw4_addTransition (ls_addTransitionB h X (xs 1) hx hm) rfl rfl (by exact Nat.le_of_ble_eq_true rfl) rfl rfl rfl (fun v h' z => ?_)
  obtain ⟨rfl, o1⟩ := z
  have M1 : mF h' := M.of o1
  have h01 := (o1.2 0 (by have := M.1; omega) (Or.inl rfl)).trans h0
  refine am_B.run (hp := false) (sp := []) 200 rfl ?_
  rw [show nI 0 + nI 1 = nI 1 from nI_add 0 1]
  refine am_B.ald rfl h01 (vp_nI (n := 5) (show 1 < 5 by decide) (Nat.le_of_ble_eq_true rfl)) rfl ?_
  rw [nI_clamp (show 1 < 2 ^ 31 by decide)]
  refine am_B.run (hp := false) (sp := []) 200 rfl ?_
  refine am_B.callV (rc := 2) (rs := 400) (ci := 5) (n := 1) (as := [.int (xs 1)]) rfl rfl rfl (mc_addTransitionB _ M1 (xs 1) hx hm) rfl rfl (by exact Nat.le_of_ble_eq_true rfl) rfl M1.2.1 rfl rfl (fun v h2 z => ?_)
  obtain ⟨rfl, p1, p2, vs, p3, p4⟩ := z
  have h02 := (p2 0 (Or.inl rfl)).trans h01
  refine am_B.run (hp := false) (sp := []) 200 rfl ?_
  refine am_B.callV (rc := 2) (rs := 400) (ci := 5) (n := 0) (as := []) rfl rfl rfl (mc_thrown _ 1 vs p3 p4) rfl rfl (by exact Nat.le_of_ble_eq_true rfl) rfl p3 rfl rfl (fun v h3 z => ?_)
  obtain ⟨rfl, rfl⟩ := z
  refine am_B.run (hp := false) (sp := []) 200 rfl ?_
  refine am_B.icmp_eq rfl rfl (fun _ => ?_) (fun z => absurd rfl z)
  refine am_B.run (hp := false) (sp := []) 200 rfl ?_
  refine am_B.if_ne rfl rfl (fun _ => ?_) (fun z => absurd z (by decide))
  refine am_B.run (hp := false) (sp := [1893]) 200 rfl ?_
  exact lw_up (lc_end nm xs _ h02 _ _ _ _ _)
set_option maxRecDepth 100000 in
set_option maxHeartbeats 4000000 in
theorem lc_link00 (nm : String) (xs : Nat → Int32) (h : am_H) (X : xF h) (M : mF h) (h0 : h[0]? = some (.inl (99, 5, .inl xs))) (h69 : h[69]? = some (la fun _ => 0)) (h70 : h[70]? = some (da fun _ => 0)) (q3 : xs 3 = 0) (q4 : xs 4 = 0) : lB nm 276 [some (.ref 0), some (.ref 1), some (.ref 53), some (.ref 69), some (.ref 70), some (.int (nI 0)), none, none, none] [] h 3 406 := by
  refine lw_sub (rows := r_LW_law_2 ++ (r_LW_law_3 ++ (r_LW_law_4))) (am_all_app ok_LW_law_2 (am_all_app ok_LW_law_3 (ok_LW_law_4))) ?_
  refine am_B.run (hp := false) (sp := []) 200 rfl ?_
  rw [show nI 0 + nI 1 = nI 1 from nI_add 0 1]
  refine am_B.ald rfl h0 (vp_nI (n := 5) (show 1 < 5 by decide) (Nat.le_of_ble_eq_true rfl)) rfl ?_
  rw [nI_clamp (show 1 < 2 ^ 31 by decide)]
  refine am_B.run (hp := false) (sp := []) 200 rfl ?_
  rw [show nI 0 + nI 2 = nI 2 from nI_add 0 2]
  refine am_B.ald rfl h0 (vp_nI (n := 5) (show 2 < 5 by decide) (Nat.le_of_ble_eq_true rfl)) rfl ?_
  rw [nI_clamp (show 2 < 2 ^ 31 by decide)]
  refine am_B.run (hp := false) (sp := []) 200 rfl ?_
  rw [show nI 0 + nI 3 = nI 3 from nI_add 0 3]
  refine am_B.ald rfl h0 (vp_nI (n := 5) (show 3 < 5 by decide) (Nat.le_of_ble_eq_true rfl)) rfl ?_
  rw [nI_clamp (show 3 < 2 ^ 31 by decide)]
  refine am_B.if_eq rfl rfl (fun _ => ?_) (fun z => absurd q3 z)
  refine am_B.run (hp := false) (sp := []) 200 rfl ?_
  rw [show nI 0 + nI 4 = nI 4 from nI_add 0 4]
  refine am_B.ald rfl h0 (vp_nI (n := 5) (show 4 < 5 by decide) (Nat.le_of_ble_eq_true rfl)) rfl ?_
  rw [nI_clamp (show 4 < 2 ^ 31 by decide)]
  refine am_B.if_eq rfl rfl (fun _ => ?_) (fun z => absurd q4 z)
  refine am_B.run (hp := false) (sp := []) 200 rfl ?_
  refine am_B.callSW (rc := 2) (rs := 400) (M := m_LW_link) (n := 6) (as := [.ref 1, .int (xs 1), .int (xs 2), .int (nI 0), .int (nI 0), .ref 69]) rfl rfl kw1_link kw2_link kw3_link kw5_LW kw4_link (ls_link h X (xs 1) (xs 2) (nI 0) (nI 0)) rfl rfl (by exact Nat.le_of_ble_eq_true rfl) rfl rfl rfl (fun v h' z => ?_)
  obtain ⟨rfl, o1⟩ := z
  have M1 : mF h' := M.of o1
  have h01 := (o1.2 0 (by have := M.1; omega) (Or.inl rfl)).trans h0
  refine am_B.run (hp := false) (sp := []) 200 rfl ?_
  rw [show nI 0 + nI 1 = nI 1 from nI_add 0 1]
  refine am_B.ald rfl h01 (vp_nI (n := 5) (show 1 < 5 by decide) (Nat.le_of_ble_eq_true rfl)) rfl ?_
  rw [nI_clamp (show 1 < 2 ^ 31 by decide)]
  refine am_B.run (hp := false) (sp := []) 200 rfl ?_
  rw [show nI 0 + nI 2 = nI 2 from nI_add 0 2]
  refine am_B.ald rfl h01 (vp_nI (n := 5) (show 2 < 5 by decide) (Nat.le_of_ble_eq_true rfl)) rfl ?_
  rw [nI_clamp (show 2 < 2 ^ 31 by decide)]
  refine am_B.run (hp := false) (sp := []) 200 rfl ?_
  rw [show nI 0 + nI 3 = nI 3 from nI_add 0 3]
  refine am_B.ald rfl h01 (vp_nI (n := 5) (show 3 < 5 by decide) (Nat.le_of_ble_eq_true rfl)) rfl ?_
  rw [nI_clamp (show 3 < 2 ^ 31 by decide)]
  refine am_B.if_eq rfl rfl (fun _ => ?_) (fun z => absurd q3 z)
  refine am_B.run (hp := false) (sp := []) 200 rfl ?_
  rw [show nI 0 + nI 4 = nI 4 from nI_add 0 4]
  refine am_B.ald rfl h01 (vp_nI (n := 5) (show 4 < 5 by decide) (Nat.le_of_ble_eq_true rfl)) rfl ?_
  rw [nI_clamp (show 4 < 2 ^ 31 by decide)]
  refine am_B.if_eq rfl rfl (fun _ => ?_) (fun z => absurd q4 z)
  refine am_B.run (hp := false) (sp := []) 200 rfl ?_
  refine am_B.callV (rc := 2) (rs := 400) (ci := 5) (n := 4) (as := [.int (xs 1), .int (xs 2), .int (nI 0), .int (nI 0)]) rfl rfl rfl (mc_link _ M1 (xs 1) (xs 2) (nI 0) (nI 0)) rfl rfl (by exact Nat.le_of_ble_eq_true rfl) rfl M1.2.1 rfl rfl (fun v h2 z => ?_)
  obtain ⟨rfl, p1, p2, vs, p3, p4⟩ := z
  have h02 := (p2 0 (Or.inl rfl)).trans h01
  refine am_B.run (hp := false) (sp := []) 200 rfl ?_
  refine am_B.callV (rc := 2) (rs := 400) (ci := 5) (n := 0) (as := []) rfl rfl rfl (mc_thrown _ 1 vs p3 p4) rfl rfl (by exact Nat.le_of_ble_eq_true rfl) rfl p3 rfl rfl (fun v h3 z => ?_)
  obtain ⟨rfl, rfl⟩ := z
  refine am_B.run (hp := false) (sp := []) 200 rfl ?_
  refine am_B.icmp_eq rfl rfl (fun _ => ?_) (fun z => absurd rfl z)
  refine am_B.run (hp := false) (sp := []) 200 rfl ?_
  refine am_B.if_ne rfl rfl (fun _ => ?_) (fun z => absurd z (by decide))
  refine am_B.run (hp := false) (sp := [1893]) 200 rfl ?_
  exact lw_up (lc_end nm xs _ h02 _ _ _ _ _)
set_option maxRecDepth 100000 in
set_option maxHeartbeats 4000000 in
theorem lc_link01 (nm : String) (xs : Nat → Int32) (h : am_H) (X : xF h) (M : mF h) (h0 : h[0]? = some (.inl (99, 5, .inl xs))) (h69 : h[69]? = some (la fun _ => 0)) (h70 : h[70]? = some (da fun _ => 0)) (q3 : xs 3 = 0) (q4 : ¬ xs 4 = 0) : lB nm 276 [some (.ref 0), some (.ref 1), some (.ref 53), some (.ref 69), some (.ref 70), some (.int (nI 0)), none, none, none] [] h 3 406 := by
  refine lw_sub (rows := r_LW_law_2 ++ (r_LW_law_3 ++ (r_LW_law_4))) (am_all_app ok_LW_law_2 (am_all_app ok_LW_law_3 (ok_LW_law_4))) ?_
  refine am_B.run (hp := false) (sp := []) 200 rfl ?_
  rw [show nI 0 + nI 1 = nI 1 from nI_add 0 1]
  refine am_B.ald rfl h0 (vp_nI (n := 5) (show 1 < 5 by decide) (Nat.le_of_ble_eq_true rfl)) rfl ?_
  rw [nI_clamp (show 1 < 2 ^ 31 by decide)]
  refine am_B.run (hp := false) (sp := []) 200 rfl ?_
  rw [show nI 0 + nI 2 = nI 2 from nI_add 0 2]
  refine am_B.ald rfl h0 (vp_nI (n := 5) (show 2 < 5 by decide) (Nat.le_of_ble_eq_true rfl)) rfl ?_
  rw [nI_clamp (show 2 < 2 ^ 31 by decide)]
  refine am_B.run (hp := false) (sp := []) 200 rfl ?_
  rw [show nI 0 + nI 3 = nI 3 from nI_add 0 3]
  refine am_B.ald rfl h0 (vp_nI (n := 5) (show 3 < 5 by decide) (Nat.le_of_ble_eq_true rfl)) rfl ?_
  rw [nI_clamp (show 3 < 2 ^ 31 by decide)]
  refine am_B.if_eq rfl rfl (fun _ => ?_) (fun z => absurd q3 z)
  refine am_B.run (hp := false) (sp := []) 200 rfl ?_
  rw [show nI 0 + nI 4 = nI 4 from nI_add 0 4]
  refine am_B.ald rfl h0 (vp_nI (n := 5) (show 4 < 5 by decide) (Nat.le_of_ble_eq_true rfl)) rfl ?_
  rw [nI_clamp (show 4 < 2 ^ 31 by decide)]
  refine am_B.if_eq rfl rfl (fun z => absurd z q4) (fun _ => ?_)
  refine am_B.run (hp := false) (sp := []) 200 rfl ?_
  refine am_B.callSW (rc := 2) (rs := 400) (M := m_LW_link) (n := 6) (as := [.ref 1, .int (xs 1), .int (xs 2), .int (nI 0), .int (nI 1), .ref 69]) rfl rfl kw1_link kw2_link kw3_link kw5_LW kw4_link (ls_link h X (xs 1) (xs 2) (nI 0) (nI 1)) rfl rfl (by exact Nat.le_of_ble_eq_true rfl) rfl rfl rfl (fun v h' z => ?_)
  obtain ⟨rfl, o1⟩ := z
  have M1 : mF h' := M.of o1
  have h01 := (o1.2 0 (by have := M.1; omega) (Or.inl rfl)).trans h0
  refine am_B.run (hp := false) (sp := []) 200 rfl ?_
  rw [show nI 0 + nI 1 = nI 1 from nI_add 0 1]
  refine am_B.ald rfl h01 (vp_nI (n := 5) (show 1 < 5 by decide) (Nat.le_of_ble_eq_true rfl)) rfl ?_
  rw [nI_clamp (show 1 < 2 ^ 31 by decide)]
  refine am_B.run (hp := false) (sp := []) 200 rfl ?_
  rw [show nI 0 + nI 2 = nI 2 from nI_add 0 2]
  refine am_B.ald rfl h01 (vp_nI (n := 5) (show 2 < 5 by decide) (Nat.le_of_ble_eq_true rfl)) rfl ?_
  rw [nI_clamp (show 2 < 2 ^ 31 by decide)]
  refine am_B.run (hp := false) (sp := []) 200 rfl ?_
  rw [show nI 0 + nI 3 = nI 3 from nI_add 0 3]
  refine am_B.ald rfl h01 (vp_nI (n := 5) (show 3 < 5 by decide) (Nat.le_of_ble_eq_true rfl)) rfl ?_
  rw [nI_clamp (show 3 < 2 ^ 31 by decide)]
  refine am_B.if_eq rfl rfl (fun _ => ?_) (fun z => absurd q3 z)
  refine am_B.run (hp := false) (sp := []) 200 rfl ?_
  rw [show nI 0 + nI 4 = nI 4 from nI_add 0 4]
  refine am_B.ald rfl h01 (vp_nI (n := 5) (show 4 < 5 by decide) (Nat.le_of_ble_eq_true rfl)) rfl ?_
  rw [nI_clamp (show 4 < 2 ^ 31 by decide)]
  refine am_B.if_eq rfl rfl (fun z => absurd z q4) (fun _ => ?_)
  refine am_B.run (hp := false) (sp := []) 200 rfl ?_
  refine am_B.callV (rc := 2) (rs := 400) (ci := 5) (n := 4) (as := [.int (xs 1), .int (xs 2), .int (nI 0), .int (nI 1)]) rfl rfl rfl (mc_link _ M1 (xs 1) (xs 2) (nI 0) (nI 1)) rfl rfl (by exact Nat.le_of_ble_eq_true rfl) rfl M1.2.1 rfl rfl (fun v h2 z => ?_)
  obtain ⟨rfl, p1, p2, vs, p3, p4⟩ := z
  have h02 := (p2 0 (Or.inl rfl)).trans h01
  refine am_B.run (hp := false) (sp := []) 200 rfl ?_
  refine am_B.callV (rc := 2) (rs := 400) (ci := 5) (n := 0) (as := []) rfl rfl rfl (mc_thrown _ 1 vs p3 p4) rfl rfl (by exact Nat.le_of_ble_eq_true rfl) rfl p3 rfl rfl (fun v h3 z => ?_)
  obtain ⟨rfl, rfl⟩ := z
  refine am_B.run (hp := false) (sp := []) 200 rfl ?_
  refine am_B.icmp_eq rfl rfl (fun _ => ?_) (fun z => absurd rfl z)
  refine am_B.run (hp := false) (sp := []) 200 rfl ?_
  refine am_B.if_ne rfl rfl (fun _ => ?_) (fun z => absurd z (by decide))
  refine am_B.run (hp := false) (sp := [1893]) 200 rfl ?_
  exact lw_up (lc_end nm xs _ h02 _ _ _ _ _)
