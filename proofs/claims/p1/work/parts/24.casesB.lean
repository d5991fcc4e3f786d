set_option maxRecDepth 100000 in
set_option maxHeartbeats 4000000 in
theorem lc_event (nm : String) (xs : Nat → Int32) (h : am_H) (X : xF h) (M : mF h) (h0 : h[0]? = some (.inl (99, 5, .inl xs))) (h69 : h[69]? = some (la fun _ => 0)) (h70 : h[70]? = some (da fun _ => 0)) (l : Nat) (hl : l < 6) (e1 : xs 1 = (nI l)) : lB nm 1008 [some (.ref 0), some (.ref 1), some (.ref 53), some (.ref 69), some (.ref 70), some (.int (nI 0)), none, none, none] [] h 3 406 := by
  refine lw_sub (rows := r_LW_law_13 ++ (r_LW_law_14)) (am_all_app ok_LW_law_13 (ok_LW_law_14)) ?_
  refine am_B.run (hp := false) (sp := [1009]) (pc := 1008) (lo := [some (.ref 0), some (.ref 1), some (.ref 53), some (.ref 69), some (.ref 70), some (.int (nI 0)), none, none, none]) (st := []) (pc' := 1009) (lo' := [some (.ref 0), some (.ref 1), some (.ref 53), some (.ref 69), some (.ref 70), some (.int (nI 0)), none, none, none]) (st' := [.ref 1]) 200 rfl ?_
  refine lw_ld 1009 1015 (j := 1) (v := (nI l)) rfl rfl rfl (fun _ _ => rfl) rfl rfl (by decide) h0 e1 ?_
  refine am_B.run (hp := false) (sp := []) (pc := 1015) (lo := [some (.ref 0), some (.ref 1), some (.ref 53), some (.ref 69), some (.ref 70), some (.int (nI 0)), none, none, none]) (st := [.int ((nI l)), .ref 1]) (pc' := 1016) (lo' := [some (.ref 0), some (.ref 1), some (.ref 53), some (.ref 69), some (.ref 70), some (.int (nI 0)), none, none, none]) (st' := [.ref 69, .int ((nI l)), .ref 1]) 200 rfl ?_
  refine am_B.callSW (rc := 2) (rs := 400) (M := m_LW_event) (n := 3) (as := [.ref 1, .int (nI l), .ref 69]) rfl rfl kw1_event kw2_event kw3_event kw5_LW kw4_event (ls_event h X l hl (fun _ => 0) h69) rfl rfl (by exact Nat.le_of_ble_eq_true rfl) rfl rfl rfl (fun v h' z => ?_)
  obtain ⟨rfl, o1, g, hg, hg0⟩ := z
  have M1 : mF h' := M.of o1
  have h01 := (o1.2 0 (by have := M.1; omega) (Or.inl rfl)).trans h0
  refine am_B.run (hp := false) (sp := [1021]) (pc := 1019) (lo := [some (.ref 0), some (.ref 1), some (.ref 53), some (.ref 69), some (.ref 70), some (.int (nI 0)), none, none, none]) (st := [.int (nI 0)]) (pc' := 1021) (lo' := [some (.ref 0), some (.ref 1), some (.ref 53), some (.ref 69), some (.ref 70), some (.int (nI 0)), some (.int (nI 0)), none, none]) (st' := []) 200 rfl ?_
  refine am_B.run (hp := false) (sp := [1022]) (pc := 1021) (lo := [some (.ref 0), some (.ref 1), some (.ref 53), some (.ref 69), some (.ref 70), some (.int (nI 0)), some (.int (nI 0)), none, none]) (st := []) (pc' := 1022) (lo' := [some (.ref 0), some (.ref 1), some (.ref 53), some (.ref 69), some (.ref 70), some (.int (nI 0)), some (.int (nI 0)), none, none]) (st' := [.ref 53]) 200 rfl ?_
  refine lw_ld 1022 1028 (j := 1) (v := (nI l)) rfl rfl rfl (fun _ _ => rfl) rfl rfl (by decide) h01 e1 ?_
  refine am_B.callV (rc := 2) (rs := 400) (ci := 5) (n := 1) (as := [.int (nI l)]) rfl rfl rfl (mc_event _ M1 l hl) rfl rfl (by exact Nat.le_of_ble_eq_true rfl) rfl M1.2.1 rfl rfl (fun v h2 z => ?_)
  obtain ⟨rfl, p1, p2, vs, p3, p4⟩ := z
  have h02 := (p2 0 (Or.inl rfl)).trans h01
  refine am_B.run (hp := false) (sp := []) (pc := 1031) (lo := [some (.ref 0), some (.ref 1), some (.ref 53), some (.ref 69), some (.ref 70), some (.int (nI 0)), some (.int (nI 0)), none, none]) (st := [_]) (pc' := 1034) (lo' := [some (.ref 0), some (.ref 1), some (.ref 53), some (.ref 69), some (.ref 70), some (.int (nI 0)), some (.int (nI 0)), some _, none]) (st' := [.ref 53]) 200 rfl ?_
  refine am_B.callV (rc := 2) (rs := 400) (ci := 5) (n := 0) (as := []) rfl rfl rfl (mc_thrown _ 0 vs p3 p4) rfl rfl (by exact Nat.le_of_ble_eq_true rfl) rfl p3 rfl rfl (fun v h3 z => ?_)
  obtain ⟨rfl, rfl⟩ := z
  refine am_B.run (hp := false) (sp := []) (pc := 1037) (lo := [some (.ref 0), some (.ref 1), some (.ref 53), some (.ref 69), some (.ref 70), some (.int (nI 0)), some (.int (nI 0)), some _, none]) (st := [.int (nI 0)]) (pc' := 1039) (lo' := [some (.ref 0), some (.ref 1), some (.ref 53), some (.ref 69), some (.ref 70), some (.int (nI 0)), some (.int (nI 0)), some _, none]) (st' := [.int (nI 0), .int (nI 0)]) 200 rfl ?_
  refine am_B.icmp_eq rfl rfl (fun _ => ?_) (fun z => absurd rfl z)
  refine am_B.run (hp := false) (sp := []) (pc := 1044) (lo := [some (.ref 0), some (.ref 1), some (.ref 53), some (.ref 69), some (.ref 70), some (.int (nI 0)), some (.int (nI 0)), some _, none]) (st := []) (pc' := 1046) (lo' := [some (.ref 0), some (.ref 1), some (.ref 53), some (.ref 69), some (.ref 70), some (.int (nI 0)), some (.int (nI 0)), some _, none]) (st' := [.int (nI 0)]) 200 rfl ?_
  refine am_B.if_ne rfl rfl (fun z => absurd rfl z) (fun _ => ?_)
  refine am_B.run (hp := false) (sp := []) (pc := 1049) (lo := [some (.ref 0), some (.ref 1), some (.ref 53), some (.ref 69), some (.ref 70), some (.int (nI 0)), some (.int (nI 0)), some _, none]) (st := []) (pc' := 1051) (lo' := [some (.ref 0), some (.ref 1), some (.ref 53), some (.ref 69), some (.ref 70), some (.int (nI 0)), some (.int (nI 0)), some _, none]) (st' := [.int (nI 0), .ref 69]) 200 rfl ?_
  refine am_B.ald rfl ((p2 69 (by decide)).trans hg) (vp_n (show 0 < 1 by decide) rfl) rfl ?_
  rw [nI_clamp (show 0 < 2 ^ 31 by decide), hg0]
  refine am_B.run (hp := false) (sp := []) 200 rfl ?_
  refine am_B.if_eq rfl rfl (fun _ => ?_) (fun z => absurd (by first | decide | rfl | decide +kernel) z)
  refine am_B.run (hp := false) (sp := [1893]) 200 rfl ?_
  exact lw_up (lc_end nm xs _ h02 _ _ _ _ _)
set_option maxRecDepth 100000 in
set_option maxHeartbeats 4000000 in
theorem lc_eventB (nm : String) (xs : Nat → Int32) (h : am_H) (X : xF h) (M : mF h) (h0 : h[0]? = some (.inl (99, 5, .inl xs))) (h69 : h[69]? = some (la fun _ => 0)) (h70 : h[70]? = some (da fun _ => 0)) (hx : xbad (xs 1) 6) : lB nm 1008 [some (.ref 0), some (.ref 1), some (.ref 53), some (.ref 69), some (.ref 70), some (.int (nI 0)), none, none, none] [] h 3 406 := by
  refine lw_sub (rows := r_LW_law_13 ++ (r_LW_law_14)) (am_all_app ok_LW_law_13 (ok_LW_law_14)) ?_
  refine am_B.run (hp := false) (sp := [1009]) (pc := 1008) (lo := [some (.ref 0), some (.ref 1), some (.ref 53), some (.ref 69), some (.ref 70), some (.int (nI 0)), none, none, none]) (st := []) (pc' := 1009) (lo' := [some (.ref 0), some (.ref 1), some (.ref 53), some (.ref 69), some (.ref 70), some (.int (nI 0)), none, none, none]) (st' := [.ref 1]) 200 rfl ?_
  refine lw_ld 1009 1015 (j := 1) (v := xs 1) rfl rfl rfl (fun _ _ => rfl) rfl rfl (by decide) h0 rfl ?_
  refine am_B.run (hp := false) (sp := []) (pc := 1015) (lo := [some (.ref 0), some (.ref 1), some (.ref 53), some (.ref 69), some (.ref 70), some (.int (nI 0)), none, none, none]) (st := [.int (xs 1), .ref 1]) (pc' := 1016) (lo' := [some (.ref 0), some (.ref 1), some (.ref 53), some (.ref 69), some (.ref 70), some (.int (nI 0)), none, none, none]) (st' := [.ref 69, .int (xs 1), .ref 1]) 200 rfl ?_
  refine am_B.callSW (rc := 2) (rs := 400) (M := m_LW_event) (n := 3) (as := [.ref 1, .int (xs 1), .ref 69]) rfl rfl kw1_event kw2_event kw3_event kw5_LW kw4_event (ls_eventB h X (xs 1) hx) rfl rfl (by exact Nat.le_of_ble_eq_true rfl) rfl rfl rfl (fun v h' z => ?_)
  obtain ⟨rfl, o1⟩ := z
  have M1 : mF h' := M.of o1
  have h01 := (o1.2 0 (by have := M.1; omega) (Or.inl rfl)).trans h0
  refine am_B.run (hp := false) (sp := [1021]) (pc := 1019) (lo := [some (.ref 0), some (.ref 1), some (.ref 53), some (.ref 69), some (.ref 70), some (.int (nI 0)), none, none, none]) (st := [.int (nI 1)]) (pc' := 1021) (lo' := [some (.ref 0), some (.ref 1), some (.ref 53), some (.ref 69), some (.ref 70), some (.int (nI 0)), some (.int (nI 1)), none, none]) (st' := []) 200 rfl ?_
  refine am_B.run (hp := false) (sp := [1022]) (pc := 1021) (lo := [some (.ref 0), some (.ref 1), some (.ref 53), some (.ref 69), some (.ref 70), some (.int (nI 0)), some (.int (nI 1)), none, none]) (st := []) (pc' := 1022) (lo' := [some (.ref 0), some (.ref 1), some (.ref 53), some (.ref 69), some (.ref 70), some (.int (nI 0)), some (.int (nI 1)), none, none]) (st' := [.ref 53]) 200 rfl ?_
  refine lw_ld 1022 1028 (j := 1) (v := xs 1) rfl rfl rfl (fun _ _ => rfl) rfl rfl (by decide) h01 rfl ?_
  refine am_B.callV (rc := 2) (rs := 400) (ci := 5) (n := 1) (as := [.int (xs 1)]) rfl rfl rfl (mc_eventB _ M1 (xs 1) hx) rfl rfl (by exact Nat.le_of_ble_eq_true rfl) rfl M1.2.1 rfl rfl (fun v h2 z => ?_)
  obtain ⟨rfl, p1, p2, vs, p3, p4⟩ := z
  have h02 := (p2 0 (Or.inl rfl)).trans h01
  refine am_B.run (hp := false) (sp := []) (pc := 1031) (lo := [some (.ref 0), some (.ref 1), some (.ref 53), some (.ref 69), some (.ref 70), some (.int (nI 0)), some (.int (nI 1)), none, none]) (st := [_]) (pc' := 1034) (lo' := [some (.ref 0), some (.ref 1), some (.ref 53), some (.ref 69), some (.ref 70), some (.int (nI 0)), some (.int (nI 1)), some _, none]) (st' := [.ref 53]) 200 rfl ?_
  refine am_B.callV (rc := 2) (rs := 400) (ci := 5) (n := 0) (as := []) rfl rfl rfl (mc_thrown _ 1 vs p3 p4) rfl rfl (by exact Nat.le_of_ble_eq_true rfl) rfl p3 rfl rfl (fun v h3 z => ?_)
  obtain ⟨rfl, rfl⟩ := z
  refine am_B.run (hp := false) (sp := []) (pc := 1037) (lo := [some (.ref 0), some (.ref 1), some (.ref 53), some (.ref 69), some (.ref 70), some (.int (nI 0)), some (.int (nI 1)), some _, none]) (st := [.int (nI 1)]) (pc' := 1039) (lo' := [some (.ref 0), some (.ref 1), some (.ref 53), some (.ref 69), some (.ref 70), some (.int (nI 0)), some (.int (nI 1)), some _, none]) (st' := [.int (nI 1), .int (nI 1)]) 200 rfl ?_
  refine am_B.icmp_eq rfl rfl (fun _ => ?_) (fun z => absurd rfl z)
  refine am_B.run (hp := false) (sp := []) (pc := 1044) (lo := [some (.ref 0), some (.ref 1), some (.ref 53), some (.ref 69), some (.ref 70), some (.int (nI 0)), some (.int (nI 1)), some _, none]) (st := []) (pc' := 1046) (lo' := [some (.ref 0), some (.ref 1), some (.ref 53), some (.ref 69), some (.ref 70), some (.int (nI 0)), some (.int (nI 1)), some _, none]) (st' := [.int (nI 1)]) 200 rfl ?_
  refine am_B.if_ne rfl rfl (fun _ => ?_) (fun z => absurd z (by decide))
  refine am_B.run (hp := false) (sp := [1893]) (pc := 1061) (lo := [some (.ref 0), some (.ref 1), some (.ref 53), some (.ref 69), some (.ref 70), some (.int (nI 0)), some (.int (nI 1)), some _, none]) (st := []) (pc' := 1893) (lo' := [some (.ref 0), some (.ref 1), some (.ref 53), some (.ref 69), some (.ref 70), some (.int (nI 0)), some (.int (nI 1)), some _, none]) (st' := []) 200 rfl ?_
  exact lw_up (lc_end nm xs _ h02 _ _ _ _ _)
set_option maxRecDepth 100000 in
set_option maxHeartbeats 4000000 in
theorem lc_store (nm : String) (xs : Nat → Int32) (h : am_H) (X : xF h) (M : mF h) (h0 : h[0]? = some (.inl (99, 5, .inl xs))) (h69 : h[69]? = some (la fun _ => 0)) (h70 : h[70]? = some (da fun _ => 0)) (l : Nat) (hl : l < 100) (e1 : xs 1 = (nI l)) : lB nm 1064 [some (.ref 0), some (.ref 1), some (.ref 53), some (.ref 69), some (.ref 70), some (.int (nI 0)), none, none, none] [] h 3 406 := by
  refine lw_sub (rows := r_LW_law_14 ++ (r_LW_law_15)) (am_all_app ok_LW_law_14 (ok_LW_law_15)) ?_
  refine am_B.run (hp := false) (sp := [1065]) (pc := 1064) (lo := [some (.ref 0), some (.ref 1), some (.ref 53), some (.ref 69), some (.ref 70), some (.int (nI 0)), none, none, none]) (st := []) (pc' := 1065) (lo' := [some (.ref 0), some (.ref 1), some (.ref 53), some (.ref 69), some (.ref 70), some (.int (nI 0)), none, none, none]) (st' := [.ref 1]) 200 rfl ?_
  refine lw_ld 1065 1071 (j := 1) (v := (nI l)) rfl rfl rfl (fun _ _ => rfl) rfl rfl (by decide) h0 e1 ?_
  refine am_B.run (hp := false) (sp := []) (pc := 1071) (lo := [some (.ref 0), some (.ref 1), some (.ref 53), some (.ref 69), some (.ref 70), some (.int (nI 0)), none, none, none]) (st := [.int ((nI l)), .ref 1]) (pc' := 1072) (lo' := [some (.ref 0), some (.ref 1), some (.ref 53), some (.ref 69), some (.ref 70), some (.int (nI 0)), none, none, none]) (st' := [.ref 69, .int ((nI l)), .ref 1]) 200 rfl ?_
  refine am_B.callSW (rc := 2) (rs := 400) (M := m_LW_store) (n := 3) (as := [.ref 1, .int (nI l), .ref 69]) rfl rfl kw1_store kw2_store kw3_store kw5_LW kw4_store (ls_store h X l hl (fun _ => 0) h69) rfl rfl (by exact Nat.le_of_ble_eq_true rfl) rfl rfl rfl (fun v h' z => ?_)
  obtain ⟨rfl, o1, g, hg, hg0⟩ := z
  have M1 : mF h' := M.of o1
  have h01 := (o1.2 0 (by have := M.1; omega) (Or.inl rfl)).trans h0
  refine am_B.run (hp := false) (sp := [1077]) (pc := 1075) (lo := [some (.ref 0), some (.ref 1), some (.ref 53), some (.ref 69), some (.ref 70), some (.int (nI 0)), none, none, none]) (st := [.int (nI 0)]) (pc' := 1077) (lo' := [some (.ref 0), some (.ref 1), some (.ref 53), some (.ref 69), some (.ref 70), some (.int (nI 0)), some (.int (nI 0)), none, none]) (st' := []) 200 rfl ?_
  refine am_B.run (hp := false) (sp := [1078]) (pc := 1077) (lo := [some (.ref 0), some (.ref 1), some (.ref 53), some (.ref 69), some (.ref 70), some (.int (nI 0)), some (.int (nI 0)), none, none]) (st := []) (pc' := 1078) (lo' := [some (.ref 0), some (.ref 1), some (.ref 53), some (.ref 69), some (.ref 70), some (.int (nI 0)), some (.int (nI 0)), none, none]) (st' := [.ref 53]) 200 rfl ?_
  refine lw_ld 1078 1084 (j := 1) (v := (nI l)) rfl rfl rfl (fun _ _ => rfl) rfl rfl (by decide) h01 e1 ?_
  refine am_B.callV (rc := 2) (rs := 400) (ci := 5) (n := 1) (as := [.int (nI l)]) rfl rfl rfl (mc_store _ M1 l hl) rfl rfl (by exact Nat.le_of_ble_eq_true rfl) rfl M1.2.1 rfl rfl (fun v h2 z => ?_)
  obtain ⟨rfl, p1, p2, vs, p3, p4⟩ := z
  have h02 := (p2 0 (Or.inl rfl)).trans h01
  refine am_B.run (hp := false) (sp := []) (pc := 1087) (lo := [some (.ref 0), some (.ref 1), some (.ref 53), some (.ref 69), some (.ref 70), some (.int (nI 0)), some (.int (nI 0)), none, none]) (st := [_]) (pc' := 1090) (lo' := [some (.ref 0), some (.ref 1), some (.ref 53), some (.ref 69), some (.ref 70), some (.int (nI 0)), some (.int (nI 0)), some _, none]) (st' := [.ref 53]) 200 rfl ?_
  refine am_B.callV (rc := 2) (rs := 400) (ci := 5) (n := 0) (as := []) rfl rfl rfl (mc_thrown _ 0 vs p3 p4) rfl rfl (by exact Nat.le_of_ble_eq_true rfl) rfl p3 rfl rfl (fun v h3 z => ?_)
  obtain ⟨rfl, rfl⟩ := z
  refine am_B.run (hp := false) (sp := []) (pc := 1093) (lo := [some (.ref 0), some (.ref 1), some (.ref 53), some (.ref 69), some (.ref 70), some (.int (nI 0)), some (.int (nI 0)), some _, none]) (st := [.int (nI 0)]) (pc' := 1095) (lo' := [some (.ref 0), some (.ref 1), some (.ref 53), some (.ref 69), some (.ref 70), some (.int (nI 0)), some (.int (nI 0)), some _, none]) (st' := [.int (nI 0), .int (nI 0)]) 200 rfl ?_
  refine am_B.icmp_eq rfl rfl (fun _ => ?_) (fun z => absurd rfl z)
  refine am_B.run (hp := false) (sp := []) (pc := 1100) (lo := [some (.ref 0), some (.ref 1), some (.ref 53), some (.ref 69), some (.ref 70), some (.int (nI 0)), some (.int (nI 0)), some _, none]) (st := []) (pc' := 1102) (lo' := [some (.ref 0), some (.ref 1), some (.ref 53), some (.ref 69), some (.ref 70), some (.int (nI 0)), some (.int (nI 0)), some _, none]) (st' := [.int (nI 0)]) 200 rfl ?_
  refine am_B.if_ne rfl rfl (fun z => absurd rfl z) (fun _ => ?_)
  refine am_B.run (hp := false) (sp := []) (pc := 1105) (lo := [some (.ref 0), some (.ref 1), some (.ref 53), some (.ref 69), some (.ref 70), some (.int (nI 0)), some (.int (nI 0)), some _, none]) (st := []) (pc' := 1107) (lo' := [some (.ref 0), some (.ref 1), some (.ref 53), some (.ref 69), some (.ref 70), some (.int (nI 0)), some (.int (nI 0)), some _, none]) (st' := [.int (nI 0), .ref 69]) 200 rfl ?_
  refine am_B.ald rfl ((p2 69 (by decide)).trans hg) (vp_n (show 0 < 1 by decide) rfl) rfl ?_
  rw [nI_clamp (show 0 < 2 ^ 31 by decide), hg0]
  refine am_B.run (hp := false) (sp := []) 200 rfl ?_
  refine am_B.if_eq rfl rfl (fun _ => ?_) (fun z => absurd (by first | decide | rfl | decide +kernel) z)
  refine am_B.run (hp := false) (sp := [1893]) 200 rfl ?_
  exact lw_up (lc_end nm xs _ h02 _ _ _ _ _)
set_option maxRecDepth 100000 in
set_option maxHeartbeats 4000000 in
theorem lc_storeB (nm : String) (xs : Nat → Int32) (h : am_H) (X : xF h) (M : mF h) (h0 : h[0]? = some (.inl (99, 5, .inl xs))) (h69 : h[69]? = some (la fun _ => 0)) (h70 : h[70]? = some (da fun _ => 0)) (hx : xbad (xs 1) 100) : lB nm 1064 [some (.ref 0), some (.ref 1), some (.ref 53), some (.ref 69), some (.ref 70), some (.int (nI 0)), none, none, none] [] h 3 406 := by
  refine lw_sub (rows := r_LW_law_14 ++ (r_LW_law_15)) (am_all_app ok_LW_law_14 (ok_LW_law_15)) ?_
  refine am_B.run (hp := false) (sp := [1065]) (pc := 1064) (lo := [some (.ref 0), some (.ref 1), some (.ref 53), some (.ref 69), some (.ref 70), some (.int (nI 0)), none, none, none]) (st := []) (pc' := 1065) (lo' := [some (.ref 0), some (.ref 1), some (.ref 53), some (.ref 69), some (.ref 70), some (.int (nI 0)), none, none, none]) (st' := [.ref 1]) 200 rfl ?_
  refine lw_ld 1065 1071 (j := 1) (v := xs 1) rfl rfl rfl (fun _ _ => rfl) rfl rfl (by decide) h0 rfl ?_
  refine am_B.run (hp := false) (sp := []) (pc := 1071) (lo := [some (.ref 0), some (.ref 1), some (.ref 53), some (.ref 69), some (.ref 70), some (.int (nI 0)), none, none, none]) (st := [.int (xs 1), .ref 1]) (pc' := 1072) (lo' := [some (.ref 0), some (.ref 1), some (.ref 53), some (.ref 69), some (.ref 70), some (.int (nI 0)), none, none, none]) (st' := [.ref 69, .int (xs 1), .ref 1]) 200 rfl ?_
  refine am_B.callSW (rc := 2) (rs := 400) (M := m_LW_store) (n := 3) (as := [.ref 1, .int (xs 1), .ref 69]) rfl rfl kw1_store kw2_store kw3_store kw5_LW kw4_store (ls_storeB h X (xs 1) hx) rfl rfl (by exact Nat.le_of_ble_eq_true rfl) rfl rfl rfl (fun v h' z => ?_)
  obtain ⟨rfl, o1⟩ := z
  have M1 : mF h' := M.of o1
  have h01 := (o1.2 0 (by have := M.1; omega) (Or.inl rfl)).trans h0
  refine am_B.run (hp := false) (sp := [1077]) (pc := 1075) (lo := [some (.ref 0), some (.ref 1), some (.ref 53), some (.ref 69), some (.ref 70), some (.int (nI 0)), none, none, none]) (st := [.int (nI 1)]) (pc' := 1077) (lo' := [some (.ref 0), some (.ref 1), some (.ref 53), some (.ref 69), some (.ref 70), some (.int (nI 0)), some (.int (nI 1)), none, none]) (st' := []) 200 rfl ?_
  refine am_B.run (hp := false) (sp := [1078]) (pc := 1077) (lo := [some (.ref 0), some (.ref 1), some (.ref 53), some (.ref 69), some (.ref 70), some (.int (nI 0)), some (.int (nI 1)), none, none]) (st := []) (pc' := 1078) (lo' := [some (.ref 0), some (.ref 1), some (.ref 53), some (.ref 69), some (.ref 70), some (.int (nI 0)), some (.int (nI 1)), none, none]) (st' := [.ref 53]) 200 rfl ?_
  refine lw_ld 1078 1084 (j := 1) (v := xs 1) rfl rfl rfl (fun _ _ => rfl) rfl rfl (by decide) h01 rfl ?_
  refine am_B.callV (rc := 2) (rs := 400) (ci := 5) (n := 1) (as := [.int (xs 1)]) rfl rfl rfl (mc_storeB _ M1 (xs 1) hx) rfl rfl (by exact Nat.le_of_ble_eq_true rfl) rfl M1.2.1 rfl rfl (fun v h2 z => ?_)
  obtain ⟨rfl, p1, p2, vs, p3, p4⟩ := z
  have h02 := (p2 0 (Or.inl rfl)).trans h01
  refine am_B.run (hp := false) (sp := []) (pc := 1087) (lo := [some (.ref 0), some (.ref 1), some (.ref 53), some (.ref 69), some (.ref 70), some (.int (nI 0)), some (.int (nI 1)), none, none]) (st := [_]) (pc' := 1090) (lo' := [some (.ref 0), some (.ref 1), some (.ref 53), some (.ref 69), some (.ref 70), some (.int (nI 0)), some (.int (nI 1)), some _, none]) (st' := [.ref 53]) 200 rfl ?_
  refine am_B.callV (rc := 2) (rs := 400) (ci := 5) (n := 0) (as := []) rfl rfl rfl (mc_thrown _ 1 vs p3 p4) rfl rfl (by exact Nat.le_of_ble_eq_true rfl) rfl p3 rfl rfl (fun v h3 z => ?_)
  obtain ⟨rfl, rfl⟩ := z
  refine am_B.run (hp := false) (sp := []) (pc := 1093) (lo := [some (.ref 0), some (.ref 1), some (.ref 53), some (.ref 69), some (.ref 70), some (.int (nI 0)), some (.int (nI 1)), some _, none]) (st := [.int (nI 1)]) (pc' := 1095) (lo' := [some (.ref 0), some (.ref 1), some (.ref 53), some (.ref 69), some (.ref 70), some (.int (nI 0)), some (.int (nI 1)), some _, none]) (st' := [.int (nI 1), .int (nI 1)]) 200 rfl ?_
  refine am_B.icmp_eq rfl rfl (fun _ => ?_) (fun z => absurd rfl z)
  refine am_B.run (hp := false) (sp := []) (pc := 1100) (lo := [some (.ref 0), some (.ref 1), some (.ref 53), some (.ref 69), some (.ref 70), some (.int (nI 0)), some (.int (nI 1)), some _, none]) (st := []) (pc' := 1102) (lo' := [some (.ref 0), some (.ref 1), some (.ref 53), some (.ref 69), some (.ref 70), some (.int (nI 0)), some (.int (nI 1)), some _, none]) (st' := [.int (nI 1)]) 200 rfl ?_
  refine am_B.if_ne rfl rfl (fun _ => ?_) (fun z => absurd z (by decide))
  refine am_B.run (hp := false) (sp := [1893]) (pc := 1117) (lo := [some (.ref 0), some (.ref 1), some (.ref 53), some (.ref 69), some (.ref 70), some (.int (nI 0)), some (.int (nI 1)), some _, none]) (st := []) (pc' := 1893) (lo' := [some (.ref 0), some (.ref 1), some (.ref 53), some (.ref 69), some (.ref 70), some (.int (nI 0)), some (.int (nI 1)), some _, none]) (st' := []) 200 rfl ?_
  exact lw_up (lc_end nm xs _ h02 _ _ _ _ _)
set_option maxRecDepth 100000 in
set_option maxHeartbeats 4000000 in
theorem lc_dropTrace (nm : String) (xs : Nat → Int32) (h : am_H) (X : xF h) (M : mF h) (h0 : h[0]? = some (.inl (99, 5, .inl xs))) (h69 : h[69]? = some (la fun _ => 0)) (h70 : h[70]? = some (da fun _ => 0)) : lB nm 1120 [some (.ref 0), some (.ref 1), some (.ref 53), some (.ref 69), some (.ref 70), some (.int (nI 0)), none, none, none] [] h 3 406 := by
  refine lw_sub (rows := r_LW_law_15 ++ (r_LW_law_16)) (am_all_app ok_LW_law_15 (ok_LW_law_16)) ?_
  refine am_B.run (hp := false) (sp := [1121]) (pc := 1120) (lo := [some (.ref 0), some (.ref 1), some (.ref 53), some (.ref 69), some (.ref 70), some (.int (nI 0)), none, none, none]) (st := []) (pc' := 1121) (lo' := [some (.ref 0), some (.ref 1), some (.ref 53), some (.ref 69), some (.ref 70), some (.int (nI 0)), none, none, none]) (st' := [.ref 1]) 200 rfl ?_
  refine am_B.run (hp := false) (sp := []) (pc := 1121) (lo := [some (.ref 0), some (.ref 1), some (.ref 53), some (.ref 69), some (.ref 70), some (.int (nI 0)), none, none, none]) (st := [.ref 1]) (pc' := 1122) (lo' := [some (.ref 0), some (.ref 1), some (.ref 53), some (.ref 69), some (.ref 70), some (.int (nI 0)), none, none, none]) (st' := [.ref 69, .ref 1]) 200 rfl ?_
  refine am_B.callSW (rc := 2) (rs := 400) (M := m_LW_dropTrace) (n := 2) (as := [.ref 1, .ref 69]) rfl rfl kw1_dropTrace kw2_dropTrace kw3_dropTrace kw5_LW kw4_dropTrace (ls_dropTrace h X) rfl rfl (by exact Nat.le_of_ble_eq_true rfl) rfl rfl rfl (fun v h' z => ?_)
  obtain ⟨rfl, o1⟩ := z
  have M1 : mF h' := M.of o1
  have h01 := (o1.2 0 (by have := M.1; omega) (Or.inl rfl)).trans h0
  refine am_B.run (hp := false) (sp := [1127]) (pc := 1125) (lo := [some (.ref 0), some (.ref 1), some (.ref 53), some (.ref 69), some (.ref 70), some (.int (nI 0)), none, none, none]) (st := [.int (nI 1)]) (pc' := 1127) (lo' := [some (.ref 0), some (.ref 1), some (.ref 53), some (.ref 69), some (.ref 70), some (.int (nI 0)), some (.int (nI 1)), none, none]) (st' := []) 200 rfl ?_
  refine am_B.run (hp := false) (sp := [1128]) (pc := 1127) (lo := [some (.ref 0), some (.ref 1), some (.ref 53), some (.ref 69), some (.ref 70), some (.int (nI 0)), some (.int (nI 1)), none, none]) (st := []) (pc' := 1128) (lo' := [some (.ref 0), some (.ref 1), some (.ref 53), some (.ref 69), some (.ref 70), some (.int (nI 0)), some (.int (nI 1)), none, none]) (st' := [.ref 53]) 200 rfl ?_
  refine am_B.callV (rc := 2) (rs := 400) (ci := 5) (n := 0) (as := []) rfl rfl rfl (mc_dropTrace _ M1) rfl rfl (by exact Nat.le_of_ble_eq_true rfl) rfl M1.2.1 rfl rfl (fun v h2 z => ?_)
  obtain ⟨rfl, p1, p2, vs, p3, p4⟩ := z
  have h02 := (p2 0 (Or.inl rfl)).trans h01
  refine am_B.run (hp := false) (sp := []) (pc := 1131) (lo := [some (.ref 0), some (.ref 1), some (.ref 53), some (.ref 69), some (.ref 70), some (.int (nI 0)), some (.int (nI 1)), none, none]) (st := [_]) (pc' := 1134) (lo' := [some (.ref 0), some (.ref 1), some (.ref 53), some (.ref 69), some (.ref 70), some (.int (nI 0)), some (.int (nI 1)), some _, none]) (st' := [.ref 53]) 200 rfl ?_
  refine am_B.callV (rc := 2) (rs := 400) (ci := 5) (n := 0) (as := []) rfl rfl rfl (mc_thrown _ 1 vs p3 p4) rfl rfl (by exact Nat.le_of_ble_eq_true rfl) rfl p3 rfl rfl (fun v h3 z => ?_)
  obtain ⟨rfl, rfl⟩ := z
  refine am_B.run (hp := false) (sp := []) (pc := 1137) (lo := [some (.ref 0), some (.ref 1), some (.ref 53), some (.ref 69), some (.ref 70), some (.int (nI 0)), some (.int (nI 1)), some _, none]) (st := [.int (nI 1)]) (pc' := 1139) (lo' := [some (.ref 0), some (.ref 1), some (.ref 53), some (.ref 69), some (.ref 70), some (.int (nI 0)), some (.int (nI 1)), some _, none]) (st' := [.int (nI 1), .int (nI 1)]) 200 rfl ?_
  refine am_B.icmp_eq rfl rfl (fun _ => ?_) (fun z => absurd rfl z)
  refine am_B.run (hp := false) (sp := []) (pc := 1144) (lo := [some (.ref 0), some (.ref 1), some (.ref 53), some (.ref 69), some (.ref 70), some (.int (nI 0)), some (.int (nI 1)), some _, none]) (st := []) (pc' := 1146) (lo' := [some (.ref 0), some (.ref 1), some (.ref 53), some (.ref 69), some (.ref 70), some (.int (nI 0)), some (.int (nI 1)), some _, none]) (st' := [.int (nI 1)]) 200 rfl ?_
  refine am_B.if_ne rfl rfl (fun _ => ?_) (fun z => absurd z (by decide))
  refine am_B.run (hp := false) (sp := [1893]) (pc := 1161) (lo := [some (.ref 0), some (.ref 1), some (.ref 53), some (.ref 69), some (.ref 70), some (.int (nI 0)), some (.int (nI 1)), some _, none]) (st := []) (pc' := 1893) (lo' := [some (.ref 0), some (.ref 1), some (.ref 53), some (.ref 69), some (.ref 70), some (.int (nI 0)), some (.int (nI 1)), some _, none]) (st' := []) 200 rfl ?_
  exact lw_up (lc_end nm xs _ h02 _ _ _ _ _)
set_option maxRecDepth 100000 in
set_option maxHeartbeats 4000000 in
theorem lc_length (nm : String) (xs : Nat → Int32) (h : am_H) (X : xF h) (M : mF h) (h0 : h[0]? = some (.inl (99, 5, .inl xs))) (h69 : h[69]? = some (la fun _ => 0)) (h70 : h[70]? = some (da fun _ => 0)) : lB nm 1164 [some (.ref 0), some (.ref 1), some (.ref 53), some (.ref 69), some (.ref 70), some (.int (nI 0)), none, none, none] [] h 3 406 := by
  refine lw_sub (rows := r_LW_law_16) (ok_LW_law_16) ?_
  refine am_B.run (hp := false) (sp := [1165]) (pc := 1164) (lo := [some (.ref 0), some (.ref 1), some (.ref 53), some (.ref 69), some (.ref 70), some (.int (nI 0)), none, none, none]) (st := []) (pc' := 1165) (lo' := [some (.ref 0), some (.ref 1), some (.ref 53), some (.ref 69), some (.ref 70), some (.int (nI 0)), none, none, none]) (st' := [.ref 1]) 200 rfl ?_
  refine lw_ld 1165 1171 (j := 1) (v := xs 1) rfl rfl rfl (fun _ _ => rfl) rfl rfl (by decide) h0 rfl ?_
  refine am_B.run (hp := false) (sp := []) (pc := 1171) (lo := [some (.ref 0), some (.ref 1), some (.ref 53), some (.ref 69), some (.ref 70), some (.int (nI 0)), none, none, none]) (st := [.int (xs 1), .ref 1]) (pc' := 1172) (lo' := [some (.ref 0), some (.ref 1), some (.ref 53), some (.ref 69), some (.ref 70), some (.int (nI 0)), none, none, none]) (st' := [.ref 69, .int (xs 1), .ref 1]) 200 rfl ?_
  refine am_B.callSW (rc := 2) (rs := 400) (M := m_LW_length) (n := 3) (as := [.ref 1, .int (xs 1), .ref 69]) rfl rfl kw1_length kw2_length kw3_length kw5_LW kw4_length (ls_length h X (xs 1)) rfl rfl (by exact Nat.le_of_ble_eq_true rfl) rfl rfl rfl (fun v h' z => ?_)
  obtain ⟨rfl, o1⟩ := z
  have M1 : mF h' := M.of o1
  have h01 := (o1.2 0 (by have := M.1; omega) (Or.inl rfl)).trans h0
  refine am_B.run (hp := false) (sp := [1177]) (pc := 1175) (lo := [some (.ref 0), some (.ref 1), some (.ref 53), some (.ref 69), some (.ref 70), some (.int (nI 0)), none, none, none]) (st := [.int (nI 1)]) (pc' := 1177) (lo' := [some (.ref 0), some (.ref 1), some (.ref 53), some (.ref 69), some (.ref 70), some (.int (nI 0)), some (.int (nI 1)), none, none]) (st' := []) 200 rfl ?_
  refine am_B.run (hp := false) (sp := [1178]) (pc := 1177) (lo := [some (.ref 0), some (.ref 1), some (.ref 53), some (.ref 69), some (.ref 70), some (.int (nI 0)), some (.int (nI 1)), none, none]) (st := []) (pc' := 1178) (lo' := [some (.ref 0), some (.ref 1), some (.ref 53), some (.ref 69), some (.ref 70), some (.int (nI 0)), some (.int (nI 1)), none, none]) (st' := [.ref 53]) 200 rfl ?_
  refine lw_ld 1178 1184 (j := 1) (v := xs 1) rfl rfl rfl (fun _ _ => rfl) rfl rfl (by decide) h01 rfl ?_
  refine am_B.callV (rc := 2) (rs := 400) (ci := 5) (n := 1) (as := [.int (xs 1)]) rfl rfl rfl (mc_length _ M1 (xs 1)) rfl rfl (by exact Nat.le_of_ble_eq_true rfl) rfl M1.2.1 rfl rfl (fun v h2 z => ?_)
  obtain ⟨rfl, p1, p2, vs, p3, p4⟩ := z
  have h02 := (p2 0 (Or.inl rfl)).trans h01
  refine am_B.run (hp := false) (sp := []) (pc := 1187) (lo := [some (.ref 0), some (.ref 1), some (.ref 53), some (.ref 69), some (.ref 70), some (.int (nI 0)), some (.int (nI 1)), none, none]) (st := [_]) (pc' := 1190) (lo' := [some (.ref 0), some (.ref 1), some (.ref 53), some (.ref 69), some (.ref 70), some (.int (nI 0)), some (.int (nI 1)), some _, none]) (st' := [.ref 53]) 200 rfl ?_
  refine am_B.callV (rc := 2) (rs := 400) (ci := 5) (n := 0) (as := []) rfl rfl rfl (mc_thrown _ 1 vs p3 p4) rfl rfl (by exact Nat.le_of_ble_eq_true rfl) rfl p3 rfl rfl (fun v h3 z => ?_)
  obtain ⟨rfl, rfl⟩ := z
  refine am_B.run (hp := false) (sp := []) (pc := 1193) (lo := [some (.ref 0), some (.ref 1), some (.ref 53), some (.ref 69), some (.ref 70), some (.int (nI 0)), some (.int (nI 1)), some _, none]) (st := [.int (nI 1)]) (pc' := 1195) (lo' := [some (.ref 0), some (.ref 1), some (.ref 53), some (.ref 69), some (.ref 70), some (.int (nI 0)), some (.int (nI 1)), some _, none]) (st' := [.int (nI 1), .int (nI 1)]) 200 rfl ?_
  refine am_B.icmp_eq rfl rfl (fun _ => ?_) (fun z => absurd rfl z)
  refine am_B.run (hp := false) (sp := []) (pc := 1200) (lo := [some (.ref 0), some (.ref 1), some (.ref 53), some (.ref 69), some (.ref 70), some (.int (nI 0)), some (.int (nI 1)), some _, none]) (st := []) (pc' := 1202) (lo' := [some (.ref 0), some (.ref 1), some (.ref 53), some (.ref 69), some (.ref 70), some (.int (nI 0)), some (.int (nI 1)), some _, none]) (st' := [.int (nI 1)]) 200 rfl ?_
  refine am_B.if_ne rfl rfl (fun _ => ?_) (fun z => absurd z (by decide))
  refine am_B.run (hp := false) (sp := [1893]) (pc := 1217) (lo := [some (.ref 0), some (.ref 1), some (.ref 53), some (.ref 69), some (.ref 70), some (.int (nI 0)), some (.int (nI 1)), some _, none]) (st := []) (pc' := 1893) (lo' := [some (.ref 0), some (.ref 1), some (.ref 53), some (.ref 69), some (.ref 70), some (.int (nI 0)), some (.int (nI 1)), some _, none]) (st' := []) 200 rfl ?_
  exact lw_up (lc_end nm xs _ h02 _ _ _ _ _)
set_option maxRecDepth 100000 in
set_option maxHeartbeats 4000000 in
theorem lc_setLabelCostA (nm : String) (xs : Nat → Int32) (h : am_H) (X : xF h) (M : mF h) (h0 : h[0]? = some (.inl (99, 5, .inl xs))) (h69 : h[69]? = some (la fun _ => 0)) (h70 : h[70]? = some (da fun _ => 0)) (hx : xbad (xs 1) 6) : lB nm 1220 [some (.ref 0), some (.ref 1), some (.ref 53), some (.ref 69), some (.ref 70), some (.int (nI 0)), none, none, none] [] h 3 406 := by
  refine lw_sub (rows := r_LW_law_16 ++ (r_LW_law_17 ++ (r_LW_law_18))) (am_all_app ok_LW_law_16 (am_all_app ok_LW_law_17 (ok_LW_law_18))) ?_
  refine am_B.run (hp := false) (sp := [1221]) (pc := 1220) (lo := [some (.ref 0), some (.ref 1), some (.ref 53), some (.ref 69), some (.ref 70), some (.int (nI 0)), none, none, none]) (st := []) (pc' := 1221) (lo' := [some (.ref 0), some (.ref 1), some (.ref 53), some (.ref 69), some (.ref 70), some (.int (nI 0)), none, none, none]) (st' := [.ref 1]) 200 rfl ?_
  refine lw_ld 1221 1227 (j := 1) (v := xs 1) rfl rfl rfl (fun _ _ => rfl) rfl rfl (by decide) h0 rfl ?_
  refine lw_ld 1227 1233 (j := 2) (v := xs 2) rfl rfl rfl (fun _ _ => rfl) rfl rfl (by decide) h0 rfl ?_
  refine am_B.run (hp := false) (sp := []) (pc := 1233) (lo := [some (.ref 0), some (.ref 1), some (.ref 53), some (.ref 69), some (.ref 70), some (.int (nI 0)), none, none, none]) (st := [.int (xs 2), .int (xs 1), .ref 1]) (pc' := 1234) (lo' := [some (.ref 0), some (.ref 1), some (.ref 53), some (.ref 69), some (.ref 70), some (.int (nI 0)), none, none, none]) (st' := [.ref 69, .int (xs 2), .int (xs 1), .ref 1]) 200 rfl ?_
  refine am_B.callSW (rc := 2) (rs := 400) (M := m_LW_setLabelCost) (n := 4) (as := [.ref 1, .int (xs 1), .int (xs 2), .ref 69]) rfl rfl kw1_setLabelCost kw2_setLabelCost kw3_setLabelCost kw5_LW kw4_setLabelCost (ls_setLabelCostA h X (xs 1) (xs 2) hx) rfl rfl (by exact Nat.le_of_ble_eq_true rfl) rfl rfl rfl (fun v h' z => ?_)
  obtain ⟨rfl, o1⟩ := z
  have M1 : mF h' := M.of o1
  have h01 := (o1.2 0 (by have := M.1; omega) (Or.inl rfl)).trans h0
  refine am_B.run (hp := false) (sp := [1239]) (pc := 1237) (lo := [some (.ref 0), some (.ref 1), some (.ref 53), some (.ref 69), some (.ref 70), some (.int (nI 0)), none, none, none]) (st := [.int (nI 1)]) (pc' := 1239) (lo' := [some (.ref 0), some (.ref 1), some (.ref 53), some (.ref 69), some (.ref 70), some (.int (nI 0)), some (.int (nI 1)), none, none]) (st' := []) 200 rfl ?_
  refine am_B.run (hp := false) (sp := [1240]) (pc := 1239) (lo := [some (.ref 0), some (.ref 1), some (.ref 53), some (.ref 69), some (.ref 70), some (.int (nI 0)), some (.int (nI 1)), none, none]) (st := []) (pc' := 1240) (lo' := [some (.ref 0), some (.ref 1), some (.ref 53), some (.ref 69), some (.ref 70), some (.int (nI 0)), some (.int (nI 1)), none, none]) (st' := [.ref 53]) 200 rfl ?_
  refine lw_ld 1240 1246 (j := 1) (v := xs 1) rfl rfl rfl (fun _ _ => rfl) rfl rfl (by decide) h01 rfl ?_
  refine lw_ld 1246 1252 (j := 2) (v := xs 2) rfl rfl rfl (fun _ _ => rfl) rfl rfl (by decide) h01 rfl ?_
  refine am_B.callV (rc := 2) (rs := 400) (ci := 5) (n := 2) (as := [.int (xs 1), .int (xs 2)]) rfl rfl rfl (mc_setLabelCostA _ M1 (xs 1) (xs 2) hx) rfl rfl (by exact Nat.le_of_ble_eq_true rfl) rfl M1.2.1 rfl rfl (fun v h2 z => ?_)
  obtain ⟨rfl, p1, p2, vs, p3, p4⟩ := z
  have h02 := (p2 0 (Or.inl rfl)).trans h01
  refine am_B.run (hp := false) (sp := []) (pc := 1255) (lo := [some (.ref 0), some (.ref 1), some (.ref 53), some (.ref 69), some (.ref 70), some (.int (nI 0)), some (.int (nI 1)), none, none]) (st := [_]) (pc' := 1258) (lo' := [some (.ref 0), some (.ref 1), some (.ref 53), some (.ref 69), some (.ref 70), some (.int (nI 0)), some (.int (nI 1)), some _, none]) (st' := [.ref 53]) 200 rfl ?_
  refine am_B.callV (rc := 2) (rs := 400) (ci := 5) (n := 0) (as := []) rfl rfl rfl (mc_thrown _ 1 vs p3 p4) rfl rfl (by exact Nat.le_of_ble_eq_true rfl) rfl p3 rfl rfl (fun v h3 z => ?_)
  obtain ⟨rfl, rfl⟩ := z
  refine am_B.run (hp := false) (sp := []) (pc := 1261) (lo := [some (.ref 0), some (.ref 1), some (.ref 53), some (.ref 69), some (.ref 70), some (.int (nI 0)), some (.int (nI 1)), some _, none]) (st := [.int (nI 1)]) (pc' := 1263) (lo' := [some (.ref 0), some (.ref 1), some (.ref 53), some (.ref 69), some (.ref 70), some (.int (nI 0)), some (.int (nI 1)), some _, none]) (st' := [.int (nI 1), .int (nI 1)]) 200 rfl ?_
  refine am_B.icmp_eq rfl rfl (fun _ => ?_) (fun z => absurd rfl z)
  refine am_B.run (hp := false) (sp := []) (pc := 1268) (lo := [some (.ref 0), some (.ref 1), some (.ref 53), some (.ref 69), some (.ref 70), some (.int (nI 0)), some (.int (nI 1)), some _, none]) (st := []) (pc' := 1270) (lo' := [some (.ref 0), some (.ref 1), some (.ref 53), some (.ref 69), some (.ref 70), some (.int (nI 0)), some (.int (nI 1)), some _, none]) (st' := [.int (nI 1)]) 200 rfl ?_
  refine am_B.if_ne rfl rfl (fun _ => ?_) (fun z => absurd z (by decide))
  refine am_B.run (hp := false) (sp := [1893]) (pc := 1285) (lo := [some (.ref 0), some (.ref 1), some (.ref 53), some (.ref 69), some (.ref 70), some (.int (nI 0)), some (.int (nI 1)), some _, none]) (st := []) (pc' := 1893) (lo' := [some (.ref 0), some (.ref 1), some (.ref 53), some (.ref 69), some (.ref 70), some (.int (nI 0)), some (.int (nI 1)), some _, none]) (st' := []) 200 rfl ?_
  exact lw_up (lc_end nm xs _ h02 _ _ _ _ _)
set_option maxRecDepth 100000 in
set_option maxHeartbeats 4000000 in
theorem lc_setLabelCostB (nm : String) (xs : Nat → Int32) (h : am_H) (X : xF h) (M : mF h) (h0 : h[0]? = some (.inl (99, 5, .inl xs))) (h69 : h[69]? = some (la fun _ => 0)) (h70 : h[70]? = some (da fun _ => 0)) (l : Nat) (hl : l < 6) (hx : xbad (xs 2) 10) (e1 : xs 1 = (nI l)) : lB nm 1220 [some (.ref 0), some (.ref 1), some (.ref 53), some (.ref 69), some (.ref 70), some (.int (nI 0)), none, none, none] [] h 3 406 := by
  refine lw_sub (rows := r_LW_law_16 ++ (r_LW_law_17 ++ (r_LW_law_18))) (am_all_app ok_LW_law_16 (am_all_app ok_LW_law_17 (ok_LW_law_18))) ?_
  refine am_B.run (hp := false) (sp := [1221]) (pc := 1220) (lo := [some (.ref 0), some (.ref 1), some (.ref 53), some (.ref 69), some (.ref 70), some (.int (nI 0)), none, none, none]) (st := []) (pc' := 1221) (lo' := [some (.ref 0), some (.ref 1), some (.ref 53), some (.ref 69), some (.ref 70), some (.int (nI 0)), none, none, none]) (st' := [.ref 1]) 200 rfl ?_
  refine lw_ld 1221 1227 (j := 1) (v := (nI l)) rfl rfl rfl (fun _ _ => rfl) rfl rfl (by decide) h0 e1 ?_
  refine lw_ld 1227 1233 (j := 2) (v := xs 2) rfl rfl rfl (fun _ _ => rfl) rfl rfl (by decide) h0 rfl ?_
  refine am_B.run (hp := false) (sp := []) (pc := 1233) (lo := [some (.ref 0), some (.ref 1), some (.ref 53), some (.ref 69), some (.ref 70), some (.int (nI 0)), none, none, none]) (st := [.int (xs 2), .int ((nI l)), .ref 1]) (pc' := 1234) (lo' := [some (.ref 0), some (.ref 1), some (.ref 53), some (.ref 69), some (.ref 70), some (.int (nI 0)), none, none, none]) (st' := [.ref 69, .int (xs 2), .int ((nI l)), .ref 1]) 200 rfl ?_
  refine am_B.callSW (rc := 2) (rs := 400) (M := m_LW_setLabelCost) (n := 4) (as := [.ref 1, .int (nI l), .int (xs 2), .ref 69]) rfl rfl kw1_setLabelCost kw2_setLabelCost kw3_setLabelCost kw5_LW kw4_setLabelCost (ls_setLabelCostB h X l hl (xs 2) hx) rfl rfl (by exact Nat.le_of_ble_eq_true rfl) rfl rfl rfl (fun v h' z => ?_)
  obtain ⟨rfl, o1⟩ := z
  have M1 : mF h' := M.of o1
  have h01 := (o1.2 0 (by have := M.1; omega) (Or.inl rfl)).trans h0
  refine am_B.run (hp := false) (sp := [1239]) (pc := 1237) (lo := [some (.ref 0), some (.ref 1), some (.ref 53), some (.ref 69), some (.ref 70), some (.int (nI 0)), none, none, none]) (st := [.int (nI 2)]) (pc' := 1239) (lo' := [some (.ref 0), some (.ref 1), some (.ref 53), some (.ref 69), some (.ref 70), some (.int (nI 0)), some (.int (nI 2)), none, none]) (st' := []) 200 rfl ?_
  refine am_B.run (hp := false) (sp := [1240]) (pc := 1239) (lo := [some (.ref 0), some (.ref 1), some (.ref 53), some (.ref 69), some (.ref 70), some (.int (nI 0)), some (.int (nI 2)), none, none]) (st := []) (pc' := 1240) (lo' := [some (.ref 0), some (.ref 1), some (.ref 53), some (.ref 69), some (.ref 70), some (.int (nI 0)), some (.int (nI 2)), none, none]) (st' := [.ref 53]) 200 rfl ?_
  refine lw_ld 1240 1246 (j := 1) (v := (nI l)) rfl rfl rfl (fun _ _ => rfl) rfl rfl (by decide) h01 e1 ?_
  refine lw_ld 1246 1252 (j := 2) (v := xs 2) rfl rfl rfl (fun _ _ => rfl) rfl rfl (by decide) h01 rfl ?_
  refine am_B.callV (rc := 2) (rs := 400) (ci := 5) (n := 2) (as := [.int (nI l), .int (xs 2)]) rfl rfl rfl (mc_setLabelCostB _ M1 l hl (xs 2) hx) rfl rfl (by exact Nat.le_of_ble_eq_true rfl) rfl M1.2.1 rfl rfl (fun v h2 z => ?_)
  obtain ⟨rfl, p1, p2, vs, p3, p4⟩ := z
  have h02 := (p2 0 (Or.inl rfl)).trans h01
  refine am_B.run (hp := false) (sp := []) (pc := 1255) (lo := [some (.ref 0), some (.ref 1), some (.ref 53), some (.ref 69), some (.ref 70), some (.int (nI 0)), some (.int (nI 2)), none, none]) (st := [_]) (pc' := 1258) (lo' := [some (.ref 0), some (.ref 1), some (.ref 53), some (.ref 69), some (.ref 70), some (.int (nI 0)), some (.int (nI 2)), some _, none]) (st' := [.ref 53]) 200 rfl ?_
  refine am_B.callV (rc := 2) (rs := 400) (ci := 5) (n := 0) (as := []) rfl rfl rfl (mc_thrown _ 2 vs p3 p4) rfl rfl (by exact Nat.le_of_ble_eq_true rfl) rfl p3 rfl rfl (fun v h3 z => ?_)
  obtain ⟨rfl, rfl⟩ := z
  refine am_B.run (hp := false) (sp := []) (pc := 1261) (lo := [some (.ref 0), some (.ref 1), some (.ref 53), some (.ref 69), some (.ref 70), some (.int (nI 0)), some (.int (nI 2)), some _, none]) (st := [.int (nI 2)]) (pc' := 1263) (lo' := [some (.ref 0), some (.ref 1), some (.ref 53), some (.ref 69), some (.ref 70), some (.int (nI 0)), some (.int (nI 2)), some _, none]) (st' := [.int (nI 2), .int (nI 2)]) 200 rfl ?_
  refine am_B.icmp_eq rfl rfl (fun _ => ?_) (fun z => absurd rfl z)
  refine am_B.run (hp := false) (sp := []) (pc := 1268) (lo := [some (.ref 0), some (.ref 1), some (.ref 53), some (.ref 69), some (.ref 70), some (.int (nI 0)), some (.int (nI 2)), some _, none]) (st := []) (pc' := 1270) (lo' := [some (.ref 0), some (.ref 1), some (.ref 53), some (.ref 69), some (.ref 70), some (.int (nI 0)), some (.int (nI 2)), some _, none]) (st' := [.int (nI 2)]) 200 rfl ?_
  refine am_B.if_ne rfl rfl (fun _ => ?_) (fun z => absurd z (by decide))
  refine am_B.run (hp := false) (sp := [1893]) (pc := 1285) (lo := [some (.ref 0), some (.ref 1), some (.ref 53), some (.ref 69), some (.ref 70), some (.int (nI 0)), some (.int (nI 2)), some _, none]) (st := []) (pc' := 1893) (lo' := [some (.ref 0), some (.ref 1), some (.ref 53), some (.ref 69), some (.ref 70), some (.int (nI 0)), some (.int (nI 2)), some _, none]) (st' := []) 200 rfl ?_
  exact lw_up (lc_end nm xs _ h02 _ _ _ _ _)
set_option maxRecDepth 100000 in
set_option maxHeartbeats 4000000 in
theorem lc_setLabelCost (nm : String) (xs : Nat → Int32) (h : am_H) (X : xF h) (M : mF h) (h0 : h[0]? = some (.inl (99, 5, .inl xs))) (h69 : h[69]? = some (la fun _ => 0)) (h70 : h[70]? = some (da fun _ => 0)) (l : Nat) (hl : l < 6) (c : Nat) (hc : c < 10) (e1 : xs 1 = (nI l)) (e2 : xs 2 = (nI c)) : lB nm 1220 [some (.ref 0), some (.ref 1), some (.ref 53), some (.ref 69), some (.ref 70), some (.int (nI 0)), none, none, none] [] h 3 406 := by
  refine lw_sub (rows := r_LW_law_16 ++ (r_LW_law_17 ++ (r_LW_law_18))) (am_all_app ok_LW_law_16 (am_all_app ok_LW_law_17 (ok_LW_law_18))) ?_
  refine am_B.run (hp := false) (sp := [1221]) (pc := 1220) (lo := [some (.ref 0), some (.ref 1), some (.ref 53), some (.ref 69), some (.ref 70), some (.int (nI 0)), none, none, none]) (st := []) (pc' := 1221) (lo' := [some (.ref 0), some (.ref 1), some (.ref 53), some (.ref 69), some (.ref 70), some (.int (nI 0)), none, none, none]) (st' := [.ref 1]) 200 rfl ?_
  refine lw_ld 1221 1227 (j := 1) (v := (nI l)) rfl rfl rfl (fun _ _ => rfl) rfl rfl (by decide) h0 e1 ?_
  refine lw_ld 1227 1233 (j := 2) (v := (nI c)) rfl rfl rfl (fun _ _ => rfl) rfl rfl (by decide) h0 e2 ?_
  refine am_B.run (hp := false) (sp := []) (pc := 1233) (lo := [some (.ref 0), some (.ref 1), some (.ref 53), some (.ref 69), some (.ref 70), some (.int (nI 0)), none, none, none]) (st := [.int ((nI c)), .int ((nI l)), .ref 1]) (pc' := 1234) (lo' := [some (.ref 0), some (.ref 1), some (.ref 53), some (.ref 69), some (.ref 70), some (.int (nI 0)), none, none, none]) (st' := [.ref 69, .int ((nI c)), .int ((nI l)), .ref 1]) 200 rfl ?_
  refine am_B.callSW (rc := 2) (rs := 400) (M := m_LW_setLabelCost) (n := 4) (as := [.ref 1, .int (nI l), .int (nI c), .ref 69]) rfl rfl kw1_setLabelCost kw2_setLabelCost kw3_setLabelCost kw5_LW kw4_setLabelCost (ls_setLabelCost h X l c hl (by omega) (fun _ => 0) h69) rfl rfl (by exact Nat.le_of_ble_eq_true rfl) rfl rfl rfl (fun v h' z => ?_)
  obtain ⟨rfl, o1, g, hg, hg0⟩ := z
  have M1 : mF h' := M.of o1
  have h01 := (o1.2 0 (by have := M.1; omega) (Or.inl rfl)).trans h0
  refine am_B.run (hp := false) (sp := [1239]) (pc := 1237) (lo := [some (.ref 0), some (.ref 1), some (.ref 53), some (.ref 69), some (.ref 70), some (.int (nI 0)), none, none, none]) (st := [.int (nI 0)]) (pc' := 1239) (lo' := [some (.ref 0), some (.ref 1), some (.ref 53), some (.ref 69), some (.ref 70), some (.int (nI 0)), some (.int (nI 0)), none, none]) (st' := []) 200 rfl ?_
  refine am_B.run (hp := false) (sp := [1240]) (pc := 1239) (lo := [some (.ref 0), some (.ref 1), some (.ref 53), some (.ref 69), some (.ref 70), some (.int (nI 0)), some (.int (nI 0)), none, none]) (st := []) (pc' := 1240) (lo' := [some (.ref 0), some (.ref 1), some (.ref 53), some (.ref 69), some (.ref 70), some (.int (nI 0)), some (.int (nI 0)), none, none]) (st' := [.ref 53]) 200 rfl ?_
  refine lw_ld 1240 1246 (j := 1) (v := (nI l)) rfl rfl rfl (fun _ _ => rfl) rfl rfl (by decide) h01 e1 ?_
  refine lw_ld 1246 1252 (j := 2) (v := (nI c)) rfl rfl rfl (fun _ _ => rfl) rfl rfl (by decide) h01 e2 ?_
  refine am_B.callV (rc := 2) (rs := 400) (ci := 5) (n := 2) (as := [.int (nI l), .int (nI c)]) rfl rfl rfl (mc_setLabelCost _ M1 l hl c hc) rfl rfl (by exact Nat.le_of_ble_eq_true rfl) rfl M1.2.1 rfl rfl (fun v h2 z => ?_)
  obtain ⟨rfl, p1, p2, vs, p3, p4⟩ := z
  have h02 := (p2 0 (Or.inl rfl)).trans h01
  refine am_B.run (hp := false) (sp := []) (pc := 1255) (lo := [some (.ref 0), some (.ref 1), some (.ref 53), some (.ref 69), some (.ref 70), some (.int (nI 0)), some (.int (nI 0)), none, none]) (st := [_]) (pc' := 1258) (lo' := [some (.ref 0), some (.ref 1), some (.ref 53), some (.ref 69), some (.ref 70), some (.int (nI 0)), some (.int (nI 0)), some _, none]) (st' := [.ref 53]) 200 rfl ?_
  refine am_B.callV (rc := 2) (rs := 400) (ci := 5) (n := 0) (as := []) rfl rfl rfl (mc_thrown _ 0 vs p3 p4) rfl rfl (by exact Nat.le_of_ble_eq_true rfl) rfl p3 rfl rfl (fun v h3 z => ?_)
  obtain ⟨rfl, rfl⟩ := z
  refine am_B.run (hp := false) (sp := []) (pc := 1261) (lo := [some (.ref 0), some (.ref 1), some (.ref 53), some (.ref 69), some (.ref 70), some (.int (nI 0)), some (.int (nI 0)), some _, none]) (st := [.int (nI 0)]) (pc' := 1263) (lo' := [some (.ref 0), some (.ref 1), some (.ref 53), some (.ref 69), some (.ref 70), some (.int (nI 0)), some (.int (nI 0)), some _, none]) (st' := [.int (nI 0), .int (nI 0)]) 200 rfl ?_
  refine am_B.icmp_eq rfl rfl (fun _ => ?_) (fun z => absurd rfl z)
  refine am_B.run (hp := false) (sp := []) (pc := 1268) (lo := [some (.ref 0), some (.ref 1), some (.ref 53), some (.ref 69), some (.ref 70), some (.int (nI 0)), some (.int (nI 0)), some _, none]) (st := []) (pc' := 1270) (lo' := [some (.ref 0), some (.ref 1), some (.ref 53), some (.ref 69), some (.ref 70), some (.int (nI 0)), some (.int (nI 0)), some _, none]) (st' := [.int (nI 0)]) 200 rfl ?_
  refine am_B.if_ne rfl rfl (fun z => absurd rfl z) (fun _ => ?_)
  refine am_B.run (hp := false) (sp := []) (pc := 1273) (lo := [some (.ref 0), some (.ref 1), some (.ref 53), some (.ref 69), some (.ref 70), some (.int (nI 0)), some (.int (nI 0)), some _, none]) (st := []) (pc' := 1275) (lo' := [some (.ref 0), some (.ref 1), some (.ref 53), some (.ref 69), some (.ref 70), some (.int (nI 0)), some (.int (nI 0)), some _, none]) (st' := [.int (nI 0), .ref 69]) 200 rfl ?_
  refine am_B.ald rfl ((p2 69 (by decide)).trans hg) (vp_n (show 0 < 1 by decide) rfl) rfl ?_
  rw [nI_clamp (show 0 < 2 ^ 31 by decide), hg0]
  refine am_B.run (hp := false) (sp := []) 200 rfl ?_
  refine am_B.if_eq rfl rfl (fun _ => ?_) (fun z => absurd (by first | decide | rfl | decide +kernel) z)
  refine am_B.run (hp := false) (sp := [1893]) 200 rfl ?_
  exact lw_up (lc_end nm xs _ h02 _ _ _ _ _)
set_option maxRecDepth 100000 in
set_option maxHeartbeats 4000000 in
theorem lc_setCost (nm : String) (xs : Nat → Int32) (h : am_H) (X : xF h) (M : mF h) (h0 : h[0]? = some (.inl (99, 5, .inl xs))) (h69 : h[69]? = some (la fun _ => 0)) (h70 : h[70]? = some (da fun _ => 0)) : lB nm 1288 [some (.ref 0), some (.ref 1), some (.ref 53), some (.ref 69), some (.ref 70), some (.int (nI 0)), none, none, none] [] h 3 406 := by
  refine lw_sub (rows := r_LW_law_18 ++ (r_LW_law_19)) (am_all_app ok_LW_law_18 (ok_LW_law_19)) ?_
  refine am_B.run (hp := false) (sp := [1289]) (pc := 1288) (lo := [some (.ref 0), some (.ref 1), some (.ref 53), some (.ref 69), some (.ref 70), some (.int (nI 0)), none, none, none]) (st := []) (pc' := 1289) (lo' := [some (.ref 0), some (.ref 1), some (.ref 53), some (.ref 69), some (.ref 70), some (.int (nI 0)), none, none, none]) (st' := [.ref 1]) 200 rfl ?_
  refine lw_ld 1289 1295 (j := 1) (v := xs 1) rfl rfl rfl (fun _ _ => rfl) rfl rfl (by decide) h0 rfl ?_
  refine lw_ld 1295 1301 (j := 2) (v := xs 2) rfl rfl rfl (fun _ _ => rfl) rfl rfl (by decide) h0 rfl ?_
  refine am_B.run (hp := false) (sp := []) (pc := 1301) (lo := [some (.ref 0), some (.ref 1), some (.ref 53), some (.ref 69), some (.ref 70), some (.int (nI 0)), none, none, none]) (st := [.int (xs 2), .int (xs 1), .ref 1]) (pc' := 1302) (lo' := [some (.ref 0), some (.ref 1), some (.ref 53), some (.ref 69), some (.ref 70), some (.int (nI 0)), none, none, none]) (st' := [.ref 69, .int (xs 2), .int (xs 1), .ref 1]) 200 rfl ?_
  refine am_B.callSW (rc := 2) (rs := 400) (M := m_LW_setCost) (n := 4) (as := [.ref 1, .int (xs 1), .int (xs 2), .ref 69]) rfl rfl kw1_setCost kw2_setCost kw3_setCost kw5_LW kw4_setCost (ls_setCost h X (xs 1) (xs 2)) rfl rfl (by exact Nat.le_of_ble_eq_true rfl) rfl rfl rfl (fun v h' z => ?_)
  obtain ⟨rfl, o1⟩ := z
  have M1 : mF h' := M.of o1
  have h01 := (o1.2 0 (by have := M.1; omega) (Or.inl rfl)).trans h0
  refine am_B.run (hp := false) (sp := [1307]) (pc := 1305) (lo := [some (.ref 0), some (.ref 1), some (.ref 53), some (.ref 69), some (.ref 70), some (.int (nI 0)), none, none, none]) (st := [.int (nI 1)]) (pc' := 1307) (lo' := [some (.ref 0), some (.ref 1), some (.ref 53), some (.ref 69), some (.ref 70), some (.int (nI 0)), some (.int (nI 1)), none, none]) (st' := []) 200 rfl ?_
  refine am_B.run (hp := false) (sp := [1308]) (pc := 1307) (lo := [some (.ref 0), some (.ref 1), some (.ref 53), some (.ref 69), some (.ref 70), some (.int (nI 0)), some (.int (nI 1)), none, none]) (st := []) (pc' := 1308) (lo' := [some (.ref 0), some (.ref 1), some (.ref 53), some (.ref 69), some (.ref 70), some (.int (nI 0)), some (.int (nI 1)), none, none]) (st' := [.ref 53]) 200 rfl ?_
  refine lw_ld 1308 1314 (j := 1) (v := xs 1) rfl rfl rfl (fun _ _ => rfl) rfl rfl (by decide) h01 rfl ?_
  refine lw_ld 1314 1320 (j := 2) (v := xs 2) rfl rfl rfl (fun _ _ => rfl) rfl rfl (by decide) h01 rfl ?_
  refine am_B.callV (rc := 2) (rs := 400) (ci := 5) (n := 2) (as := [.int (xs 1), .int (xs 2)]) rfl rfl rfl (mc_setCost _ M1 (xs 1) (xs 2)) rfl rfl (by exact Nat.le_of_ble_eq_true rfl) rfl M1.2.1 rfl rfl (fun v h2 z => ?_)
  obtain ⟨rfl, p1, p2, vs, p3, p4⟩ := z
  have h02 := (p2 0 (Or.inl rfl)).trans h01
  refine am_B.run (hp := false) (sp := []) (pc := 1323) (lo := [some (.ref 0), some (.ref 1), some (.ref 53), some (.ref 69), some (.ref 70), some (.int (nI 0)), some (.int (nI 1)), none, none]) (st := [_]) (pc' := 1326) (lo' := [some (.ref 0), some (.ref 1), some (.ref 53), some (.ref 69), some (.ref 70), some (.int (nI 0)), some (.int (nI 1)), some _, none]) (st' := [.ref 53]) 200 rfl ?_
  refine am_B.callV (rc := 2) (rs := 400) (ci := 5) (n := 0) (as := []) rfl rfl rfl (mc_thrown _ 1 vs p3 p4) rfl rfl (by exact Nat.le_of_ble_eq_true rfl) rfl p3 rfl rfl (fun v h3 z => ?_)
  obtain ⟨rfl, rfl⟩ := z
  refine am_B.run (hp := false) (sp := []) (pc := 1329) (lo := [some (.ref 0), some (.ref 1), some (.ref 53), some (.ref 69), some (.ref 70), some (.int (nI 0)), some (.int (nI 1)), some _, none]) (st := [.int (nI 1)]) (pc' := 1331) (lo' := [some (.ref 0), some (.ref 1), some (.ref 53), some (.ref 69), some (.ref 70), some (.int (nI 0)), some (.int (nI 1)), some _, none]) (st' := [.int (nI 1), .int (nI 1)]) 200 rfl ?_
  refine am_B.icmp_eq rfl rfl (fun _ => ?_) (fun z => absurd rfl z)
  refine am_B.run (hp := false) (sp := []) (pc := 1336) (lo := [some (.ref 0), some (.ref 1), some (.ref 53), some (.ref 69), some (.ref 70), some (.int (nI 0)), some (.int (nI 1)), some _, none]) (st := []) (pc' := 1338) (lo' := [some (.ref 0), some (.ref 1), some (.ref 53), some (.ref 69), some (.ref 70), some (.int (nI 0)), some (.int (nI 1)), some _, none]) (st' := [.int (nI 1)]) 200 rfl ?_
  refine am_B.if_ne rfl rfl (fun _ => ?_) (fun z => absurd z (by decide))
  refine am_B.run (hp := false) (sp := [1893]) (pc := 1353) (lo := [some (.ref 0), some (.ref 1), some (.ref 53), some (.ref 69), some (.ref 70), some (.int (nI 0)), some (.int (nI 1)), some _, none]) (st := []) (pc' := 1893) (lo' := [some (.ref 0), some (.ref 1), some (.ref 53), some (.ref 69), some (.ref 70), some (.int (nI 0)), some (.int (nI 1)), some _, none]) (st' := []) 200 rfl ?_
  exact lw_up (lc_end nm xs _ h02 _ _ _ _ _)
set_option maxRecDepth 100000 in
set_option maxHeartbeats 4000000 in
theorem lc_cost (nm : String) (xs : Nat → Int32) (h : am_H) (X : xF h) (M : mF h) (h0 : h[0]? = some (.inl (99, 5, .inl xs))) (h69 : h[69]? = some (la fun _ => 0)) (h70 : h[70]? = some (da fun _ => 0)) : lB nm 1356 [some (.ref 0), some (.ref 1), some (.ref 53), some (.ref 69), some (.ref 70), some (.int (nI 0)), none, none, none] [] h 3 406 := by
  refine lw_sub (rows := r_LW_law_19 ++ (r_LW_law_20)) (am_all_app ok_LW_law_19 (ok_LW_law_20)) ?_
  refine am_B.run (hp := false) (sp := [1357]) (pc := 1356) (lo := [some (.ref 0), some (.ref 1), some (.ref 53), some (.ref 69), some (.ref 70), some (.int (nI 0)), none, none, none]) (st := []) (pc' := 1357) (lo' := [some (.ref 0), some (.ref 1), some (.ref 53), some (.ref 69), some (.ref 70), some (.int (nI 0)), none, none, none]) (st' := [.ref 1]) 200 rfl ?_
  refine lw_ld 1357 1363 (j := 1) (v := xs 1) rfl rfl rfl (fun _ _ => rfl) rfl rfl (by decide) h0 rfl ?_
  refine am_B.run (hp := false) (sp := []) (pc := 1363) (lo := [some (.ref 0), some (.ref 1), some (.ref 53), some (.ref 69), some (.ref 70), some (.int (nI 0)), none, none, none]) (st := [.int (xs 1), .ref 1]) (pc' := 1364) (lo' := [some (.ref 0), some (.ref 1), some (.ref 53), some (.ref 69), some (.ref 70), some (.int (nI 0)), none, none, none]) (st' := [.ref 69, .int (xs 1), .ref 1]) 200 rfl ?_
  refine am_B.callSW (rc := 2) (rs := 400) (M := m_LW_cost) (n := 3) (as := [.ref 1, .int (xs 1), .ref 69]) rfl rfl kw1_cost kw2_cost kw3_cost kw5_LW kw4_cost (ls_cost h X (xs 1)) rfl rfl (by exact Nat.le_of_ble_eq_true rfl) rfl rfl rfl (fun v h' z => ?_)
  obtain ⟨rfl, o1⟩ := z
  have M1 : mF h' := M.of o1
  have h01 := (o1.2 0 (by have := M.1; omega) (Or.inl rfl)).trans h0
  refine am_B.run (hp := false) (sp := [1369]) (pc := 1367) (lo := [some (.ref 0), some (.ref 1), some (.ref 53), some (.ref 69), some (.ref 70), some (.int (nI 0)), none, none, none]) (st := [.int (nI 1)]) (pc' := 1369) (lo' := [some (.ref 0), some (.ref 1), some (.ref 53), some (.ref 69), some (.ref 70), some (.int (nI 0)), some (.int (nI 1)), none, none]) (st' := []) 200 rfl ?_
  refine am_B.run (hp := false) (sp := [1370]) (pc := 1369) (lo := [some (.ref 0), some (.ref 1), some (.ref 53), some (.ref 69), some (.ref 70), some (.int (nI 0)), some (.int (nI 1)), none, none]) (st := []) (pc' := 1370) (lo' := [some (.ref 0), some (.ref 1), some (.ref 53), some (.ref 69), some (.ref 70), some (.int (nI 0)), some (.int (nI 1)), none, none]) (st' := [.ref 53]) 200 rfl ?_
  refine lw_ld 1370 1376 (j := 1) (v := xs 1) rfl rfl rfl (fun _ _ => rfl) rfl rfl (by decide) h01 rfl ?_
  refine am_B.callV (rc := 2) (rs := 400) (ci := 5) (n := 1) (as := [.int (xs 1)]) rfl rfl rfl (mc_cost _ M1 (xs 1)) rfl rfl (by exact Nat.le_of_ble_eq_true rfl) rfl M1.2.1 rfl rfl (fun v h2 z => ?_)
  obtain ⟨rfl, p1, p2, vs, p3, p4⟩ := z
  have h02 := (p2 0 (Or.inl rfl)).trans h01
  refine am_B.run (hp := false) (sp := []) (pc := 1379) (lo := [some (.ref 0), some (.ref 1), some (.ref 53), some (.ref 69), some (.ref 70), some (.int (nI 0)), some (.int (nI 1)), none, none]) (st := [_]) (pc' := 1382) (lo' := [some (.ref 0), some (.ref 1), some (.ref 53), some (.ref 69), some (.ref 70), some (.int (nI 0)), some (.int (nI 1)), some _, none]) (st' := [.ref 53]) 200 rfl ?_
  refine am_B.callV (rc := 2) (rs := 400) (ci := 5) (n := 0) (as := []) rfl rfl rfl (mc_thrown _ 1 vs p3 p4) rfl rfl (by exact Nat.le_of_ble_eq_true rfl) rfl p3 rfl rfl (fun v h3 z => ?_)
  obtain ⟨rfl, rfl⟩ := z
  refine am_B.run (hp := false) (sp := []) (pc := 1385) (lo := [some (.ref 0), some (.ref 1), some (.ref 53), some (.ref 69), some (.ref 70), some (.int (nI 0)), some (.int (nI 1)), some _, none]) (st := [.int (nI 1)]) (pc' := 1387) (lo' := [some (.ref 0), some (.ref 1), some (.ref 53), some (.ref 69), some (.ref 70), some (.int (nI 0)), some (.int (nI 1)), some _, none]) (st' := [.int (nI 1), .int (nI 1)]) 200 rfl ?_
  refine am_B.icmp_eq rfl rfl (fun _ => ?_) (fun z => absurd rfl z)
  refine am_B.run (hp := false) (sp := []) (pc := 1392) (lo := [some (.ref 0), some (.ref 1), some (.ref 53), some (.ref 69), some (.ref 70), some (.int (nI 0)), some (.int (nI 1)), some _, none]) (st := []) (pc' := 1394) (lo' := [some (.ref 0), some (.ref 1), some (.ref 53), some (.ref 69), some (.ref 70), some (.int (nI 0)), some (.int (nI 1)), some _, none]) (st' := [.int (nI 1)]) 200 rfl ?_
  refine am_B.if_ne rfl rfl (fun _ => ?_) (fun z => absurd z (by decide))
  refine am_B.run (hp := false) (sp := [1893]) (pc := 1409) (lo := [some (.ref 0), some (.ref 1), some (.ref 53), some (.ref 69), some (.ref 70), some (.int (nI 0)), some (.int (nI 1)), some _, none]) (st := []) (pc' := 1893) (lo' := [some (.ref 0), some (.ref 1), some (.ref 53), some (.ref 69), some (.ref 70), some (.int (nI 0)), some (.int (nI 1)), some _, none]) (st' := []) 200 rfl ?_
  exact lw_up (lc_end nm xs _ h02 _ _ _ _ _)
set_option maxRecDepth 100000 in
set_option maxHeartbeats 4000000 in
theorem lc_moves (nm : String) (xs : Nat → Int32) (h : am_H) (X : xF h) (M : mF h) (h0 : h[0]? = some (.inl (99, 5, .inl xs))) (h69 : h[69]? = some (la fun _ => 0)) (h70 : h[70]? = some (da fun _ => 0)) : lB nm 1412 [some (.ref 0), some (.ref 1), some (.ref 53), some (.ref 69), some (.ref 70), some (.int (nI 0)), none, none, none] [] h 3 406 := by
  refine lw_sub (rows := r_LW_law_20) (ok_LW_law_20) ?_
  refine am_B.run (hp := false) (sp := [1413]) (pc := 1412) (lo := [some (.ref 0), some (.ref 1), some (.ref 53), some (.ref 69), some (.ref 70), some (.int (nI 0)), none, none, none]) (st := []) (pc' := 1413) (lo' := [some (.ref 0), some (.ref 1), some (.ref 53), some (.ref 69), some (.ref 70), some (.int (nI 0)), none, none, none]) (st' := [.ref 1]) 200 rfl ?_
  refine lw_ld 1413 1419 (j := 1) (v := xs 1) rfl rfl rfl (fun _ _ => rfl) rfl rfl (by decide) h0 rfl ?_
  refine am_B.run (hp := false) (sp := []) (pc := 1419) (lo := [some (.ref 0), some (.ref 1), some (.ref 53), some (.ref 69), some (.ref 70), some (.int (nI 0)), none, none, none]) (st := [.int (xs 1), .ref 1]) (pc' := 1420) (lo' := [some (.ref 0), some (.ref 1), some (.ref 53), some (.ref 69), some (.ref 70), some (.int (nI 0)), none, none, none]) (st' := [.ref 69, .int (xs 1), .ref 1]) 200 rfl ?_
  refine am_B.callSW (rc := 2) (rs := 400) (M := m_LW_moves) (n := 3) (as := [.ref 1, .int (xs 1), .ref 69]) rfl rfl kw1_moves kw2_moves kw3_moves kw5_LW kw4_moves (ls_moves h X (xs 1)) rfl rfl (by exact Nat.le_of_ble_eq_true rfl) rfl rfl rfl (fun v h' z => ?_)
  obtain ⟨rfl, o1⟩ := z
  have M1 : mF h' := M.of o1
  have h01 := (o1.2 0 (by have := M.1; omega) (Or.inl rfl)).trans h0
  refine am_B.run (hp := false) (sp := [1425]) (pc := 1423) (lo := [some (.ref 0), some (.ref 1), some (.ref 53), some (.ref 69), some (.ref 70), some (.int (nI 0)), none, none, none]) (st := [.int (nI 1)]) (pc' := 1425) (lo' := [some (.ref 0), some (.ref 1), some (.ref 53), some (.ref 69), some (.ref 70), some (.int (nI 0)), some (.int (nI 1)), none, none]) (st' := []) 200 rfl ?_
  refine am_B.run (hp := false) (sp := [1426]) (pc := 1425) (lo := [some (.ref 0), some (.ref 1), some (.ref 53), some (.ref 69), some (.ref 70), some (.int (nI 0)), some (.int (nI 1)), none, none]) (st := []) (pc' := 1426) (lo' := [some (.ref 0), some (.ref 1), some (.ref 53), some (.ref 69), some (.ref 70), some (.int (nI 0)), some (.int (nI 1)), none, none]) (st' := [.ref 53]) 200 rfl ?_
  refine lw_ld 1426 1432 (j := 1) (v := xs 1) rfl rfl rfl (fun _ _ => rfl) rfl rfl (by decide) h01 rfl ?_
  refine am_B.callV (rc := 2) (rs := 400) (ci := 5) (n := 1) (as := [.int (xs 1)]) rfl rfl rfl (mc_moves _ M1 (xs 1)) rfl rfl (by exact Nat.le_of_ble_eq_true rfl) rfl M1.2.1 rfl rfl (fun v h2 z => ?_)
  obtain ⟨rfl, p1, p2, vs, p3, p4⟩ := z
  have h02 := (p2 0 (Or.inl rfl)).trans h01
  refine am_B.run (hp := false) (sp := []) (pc := 1435) (lo := [some (.ref 0), some (.ref 1), some (.ref 53), some (.ref 69), some (.ref 70), some (.int (nI 0)), some (.int (nI 1)), none, none]) (st := [_]) (pc' := 1438) (lo' := [some (.ref 0), some (.ref 1), some (.ref 53), some (.ref 69), some (.ref 70), some (.int (nI 0)), some (.int (nI 1)), some _, none]) (st' := [.ref 53]) 200 rfl ?_
  refine am_B.callV (rc := 2) (rs := 400) (ci := 5) (n := 0) (as := []) rfl rfl rfl (mc_thrown _ 1 vs p3 p4) rfl rfl (by exact Nat.le_of_ble_eq_true rfl) rfl p3 rfl rfl (fun v h3 z => ?_)
  obtain ⟨rfl, rfl⟩ := z
  refine am_B.run (hp := false) (sp := []) (pc := 1441) (lo := [some (.ref 0), some (.ref 1), some (.ref 53), some (.ref 69), some (.ref 70), some (.int (nI 0)), some (.int (nI 1)), some _, none]) (st := [.int (nI 1)]) (pc' := 1443) (lo' := [some (.ref 0), some (.ref 1), some (.ref 53), some (.ref 69), some (.ref 70), some (.int (nI 0)), some (.int (nI 1)), some _, none]) (st' := [.int (nI 1), .int (nI 1)]) 200 rfl ?_
  refine am_B.icmp_eq rfl rfl (fun _ => ?_) (fun z => absurd rfl z)
  refine am_B.run (hp := false) (sp := []) (pc := 1448) (lo := [some (.ref 0), some (.ref 1), some (.ref 53), some (.ref 69), some (.ref 70), some (.int (nI 0)), some (.int (nI 1)), some _, none]) (st := []) (pc' := 1450) (lo' := [some (.ref 0), some (.ref 1), some (.ref 53), some (.ref 69), some (.ref 70), some (.int (nI 0)), some (.int (nI 1)), some _, none]) (st' := [.int (nI 1)]) 200 rfl ?_
  refine am_B.if_ne rfl rfl (fun _ => ?_) (fun z => absurd z (by decide))
  refine am_B.run (hp := false) (sp := [1893]) (pc := 1465) (lo := [some (.ref 0), some (.ref 1), some (.ref 53), some (.ref 69), some (.ref 70), some (.int (nI 0)), some (.int (nI 1)), some _, none]) (st := []) (pc' := 1893) (lo' := [some (.ref 0), some (.ref 1), some (.ref 53), some (.ref 69), some (.ref 70), some (.int (nI 0)), some (.int (nI 1)), some _, none]) (st' := []) 200 rfl ?_
  exact lw_up (lc_end nm xs _ h02 _ _ _ _ _)
set_option maxRecDepth 100000 in
set_option maxHeartbeats 4000000 in
theorem lc_worst (nm : String) (xs : Nat → Int32) (h : am_H) (X : xF h) (M : mF h) (h0 : h[0]? = some (.inl (99, 5, .inl xs))) (h69 : h[69]? = some (la fun _ => 0)) (h70 : h[70]? = some (da fun _ => 0)) : lB nm 1548 [some (.ref 0), some (.ref 1), some (.ref 53), some (.ref 69), some (.ref 70), some (.int (nI 0)), none, none, none] [] h 3 406 := by
  refine lw_sub (rows := r_LW_law_22 ++ (r_LW_law_23)) (am_all_app ok_LW_law_22 (ok_LW_law_23)) ?_
  refine am_B.run (hp := false) (sp := [1549]) (pc := 1548) (lo := [some (.ref 0), some (.ref 1), some (.ref 53), some (.ref 69), some (.ref 70), some (.int (nI 0)), none, none, none]) (st := []) (pc' := 1549) (lo' := [some (.ref 0), some (.ref 1), some (.ref 53), some (.ref 69), some (.ref 70), some (.int (nI 0)), none, none, none]) (st' := [.ref 1]) 200 rfl ?_
  refine lw_ld 1549 1555 (j := 1) (v := xs 1) rfl rfl rfl (fun _ _ => rfl) rfl rfl (by decide) h0 rfl ?_
  refine am_B.run (hp := false) (sp := []) (pc := 1555) (lo := [some (.ref 0), some (.ref 1), some (.ref 53), some (.ref 69), some (.ref 70), some (.int (nI 0)), none, none, none]) (st := [.int (xs 1), .ref 1]) (pc' := 1556) (lo' := [some (.ref 0), some (.ref 1), some (.ref 53), some (.ref 69), some (.ref 70), some (.int (nI 0)), none, none, none]) (st' := [.ref 69, .int (xs 1), .ref 1]) 200 rfl ?_
  refine am_B.callSW (rc := 2) (rs := 400) (M := m_LW_worst) (n := 3) (as := [.ref 1, .int (xs 1), .ref 69]) rfl rfl kw1_worst kw2_worst kw3_worst kw5_LW kw4_worst (ls_worst h X (xs 1)) rfl rfl (by exact Nat.le_of_ble_eq_true rfl) rfl rfl rfl (fun v h' z => ?_)
  obtain ⟨rfl, o1⟩ := z
  have M1 : mF h' := M.of o1
  have h01 := (o1.2 0 (by have := M.1; omega) (Or.inl rfl)).trans h0
  refine am_B.run (hp := false) (sp := [1561]) (pc := 1559) (lo := [some (.ref 0), some (.ref 1), some (.ref 53), some (.ref 69), some (.ref 70), some (.int (nI 0)), none, none, none]) (st := [.int (nI 1)]) (pc' := 1561) (lo' := [some (.ref 0), some (.ref 1), some (.ref 53), some (.ref 69), some (.ref 70), some (.int (nI 0)), some (.int (nI 1)), none, none]) (st' := []) 200 rfl ?_
  refine am_B.run (hp := false) (sp := [1562]) (pc := 1561) (lo := [some (.ref 0), some (.ref 1), some (.ref 53), some (.ref 69), some (.ref 70), some (.int (nI 0)), some (.int (nI 1)), none, none]) (st := []) (pc' := 1562) (lo' := [some (.ref 0), some (.ref 1), some (.ref 53), some (.ref 69), some (.ref 70), some (.int (nI 0)), some (.int (nI 1)), none, none]) (st' := [.ref 53]) 200 rfl ?_
  refine lw_ld 1562 1568 (j := 1) (v := xs 1) rfl rfl rfl (fun _ _ => rfl) rfl rfl (by decide) h01 rfl ?_
  refine am_B.callV (rc := 2) (rs := 400) (ci := 5) (n := 1) (as := [.int (xs 1)]) rfl rfl rfl (mc_worst _ M1 (xs 1)) rfl rfl (by exact Nat.le_of_ble_eq_true rfl) rfl M1.2.1 rfl rfl (fun v h2 z => ?_)
  obtain ⟨rfl, p1, p2, vs, p3, p4⟩ := z
  have h02 := (p2 0 (Or.inl rfl)).trans h01
  refine am_B.run (hp := false) (sp := []) (pc := 1571) (lo := [some (.ref 0), some (.ref 1), some (.ref 53), some (.ref 69), some (.ref 70), some (.int (nI 0)), some (.int (nI 1)), none, none]) (st := [_]) (pc' := 1574) (lo' := [some (.ref 0), some (.ref 1), some (.ref 53), some (.ref 69), some (.ref 70), some (.int (nI 0)), some (.int (nI 1)), some _, none]) (st' := [.ref 53]) 200 rfl ?_
  refine am_B.callV (rc := 2) (rs := 400) (ci := 5) (n := 0) (as := []) rfl rfl rfl (mc_thrown _ 1 vs p3 p4) rfl rfl (by exact Nat.le_of_ble_eq_true rfl) rfl p3 rfl rfl (fun v h3 z => ?_)
  obtain ⟨rfl, rfl⟩ := z
  refine am_B.run (hp := false) (sp := []) (pc := 1577) (lo := [some (.ref 0), some (.ref 1), some (.ref 53), some (.ref 69), some (.ref 70), some (.int (nI 0)), some (.int (nI 1)), some _, none]) (st := [.int (nI 1)]) (pc' := 1579) (lo' := [some (.ref 0), some (.ref 1), some (.ref 53), some (.ref 69), some (.ref 70), some (.int (nI 0)), some (.int (nI 1)), some _, none]) (st' := [.int (nI 1), .int (nI 1)]) 200 rfl ?_
  refine am_B.icmp_eq rfl rfl (fun _ => ?_) (fun z => absurd rfl z)
  refine am_B.run (hp := false) (sp := []) (pc := 1584) (lo := [some (.ref 0), some (.ref 1), some (.ref 53), some (.ref 69), some (.ref 70), some (.int (nI 0)), some (.int (nI 1)), some _, none]) (st := []) (pc' := 1586) (lo' := [some (.ref 0), some (.ref 1), some (.ref 53), some (.ref 69), some (.ref 70), some (.int (nI 0)), some (.int (nI 1)), some _, none]) (st' := [.int (nI 1)]) 200 rfl ?_
  refine am_B.if_ne rfl rfl (fun _ => ?_) (fun z => absurd z (by decide))
  refine am_B.run (hp := false) (sp := [1893]) (pc := 1601) (lo := [some (.ref 0), some (.ref 1), some (.ref 53), some (.ref 69), some (.ref 70), some (.int (nI 0)), some (.int (nI 1)), some _, none]) (st := []) (pc' := 1893) (lo' := [some (.ref 0), some (.ref 1), some (.ref 53), some (.ref 69), some (.ref 70), some (.int (nI 0)), some (.int (nI 1)), some _, none]) (st' := []) 200 rfl ?_
  exact lw_up (lc_end nm xs _ h02 _ _ _ _ _)
set_option maxRecDepth 100000 in
set_option maxHeartbeats 4000000 in
theorem lc_move (nm : String) (xs : Nat → Int32) (h : am_H) (X : xF h) (M : mF h) (h0 : h[0]? = some (.inl (99, 5, .inl xs))) (h69 : h[69]? = some (la fun _ => 0)) (h70 : h[70]? = some (da fun _ => 0)) : lB nm 1468 [some (.ref 0), some (.ref 1), some (.ref 53), some (.ref 69), some (.ref 70), some (.int (nI 0)), none, none, none] [] h 3 406 := by
  refine lw_sub (rows := r_LW_law_20 ++ (r_LW_law_21 ++ (r_LW_law_22))) (am_all_app ok_LW_law_20 (am_all_app ok_LW_law_21 (ok_LW_law_22))) ?_
  refine am_B.run (hp := false) (sp := [1469]) (pc := 1468) (lo := [some (.ref 0), some (.ref 1), some (.ref 53), some (.ref 69), some (.ref 70), some (.int (nI 0)), none, none, none]) (st := []) (pc' := 1469) (lo' := [some (.ref 0), some (.ref 1), some (.ref 53), some (.ref 69), some (.ref 70), some (.int (nI 0)), none, none, none]) (st' := [.ref 1]) 200 rfl ?_
  refine lw_ld 1469 1475 (j := 1) (v := xs 1) rfl rfl rfl (fun _ _ => rfl) rfl rfl (by decide) h0 rfl ?_
  refine lw_ld 1475 1481 (j := 2) (v := xs 2) rfl rfl rfl (fun _ _ => rfl) rfl rfl (by decide) h0 rfl ?_
  refine lw_ld 1481 1487 (j := 3) (v := xs 3) rfl rfl rfl (fun _ _ => rfl) rfl rfl (by decide) h0 rfl ?_
  refine am_B.run (hp := false) (sp := []) (pc := 1487) (lo := [some (.ref 0), some (.ref 1), some (.ref 53), some (.ref 69), some (.ref 70), some (.int (nI 0)), none, none, none]) (st := [.int (xs 3), .int (xs 2), .int (xs 1), .ref 1]) (pc' := 1488) (lo' := [some (.ref 0), some (.ref 1), some (.ref 53), some (.ref 69), some (.ref 70), some (.int (nI 0)), none, none, none]) (st' := [.ref 69, .int (xs 3), .int (xs 2), .int (xs 1), .ref 1]) 200 rfl ?_
  refine am_B.callSW (rc := 2) (rs := 400) (M := m_LW_move) (n := 5) (as := [.ref 1, .int (xs 1), .int (xs 2), .int (xs 3), .ref 69]) rfl rfl kw1_move kw2_move kw3_move kw5_LW kw4_move (ls_move h X (xs 1) (xs 2) (xs 3)) rfl rfl (by exact Nat.le_of_ble_eq_true rfl) rfl rfl rfl (fun v h' z => ?_)
  obtain ⟨rfl, o1⟩ := z
  have M1 : mF h' := M.of o1
  have h01 := (o1.2 0 (by have := M.1; omega) (Or.inl rfl)).trans h0
  refine am_B.run (hp := false) (sp := [1493]) (pc := 1491) (lo := [some (.ref 0), some (.ref 1), some (.ref 53), some (.ref 69), some (.ref 70), some (.int (nI 0)), none, none, none]) (st := [.int (nI 1)]) (pc' := 1493) (lo' := [some (.ref 0), some (.ref 1), some (.ref 53), some (.ref 69), some (.ref 70), some (.int (nI 0)), some (.int (nI 1)), none, none]) (st' := []) 200 rfl ?_
  refine am_B.run (hp := false) (sp := [1494]) (pc := 1493) (lo := [some (.ref 0), some (.ref 1), some (.ref 53), some (.ref 69), some (.ref 70), some (.int (nI 0)), some (.int (nI 1)), none, none]) (st := []) (pc' := 1494) (lo' := [some (.ref 0), some (.ref 1), some (.ref 53), some (.ref 69), some (.ref 70), some (.int (nI 0)), some (.int (nI 1)), none, none]) (st' := [.ref 53]) 200 rfl ?_
  refine lw_ld 1494 1500 (j := 1) (v := xs 1) rfl rfl rfl (fun _ _ => rfl) rfl rfl (by decide) h01 rfl ?_
  refine lw_ld 1500 1506 (j := 2) (v := xs 2) rfl rfl rfl (fun _ _ => rfl) rfl rfl (by decide) h01 rfl ?_
  refine lw_ld 1506 1512 (j := 3) (v := xs 3) rfl rfl rfl (fun _ _ => rfl) rfl rfl (by decide) h01 rfl ?_
  refine am_B.callV (rc := 2) (rs := 400) (ci := 5) (n := 3) (as := [.int (xs 1), .int (xs 2), .int (xs 3)]) rfl rfl rfl (mc_move _ M1 (xs 1) (xs 2) (xs 3)) rfl rfl (by exact Nat.le_of_ble_eq_true rfl) rfl M1.2.1 rfl rfl (fun v h2 z => ?_)
  obtain ⟨rfl, p1, p2, vs, p3, p4⟩ := z
  have h02 := (p2 0 (Or.inl rfl)).trans h01
  refine am_B.run (hp := false) (sp := []) (pc := 1515) (lo := [some (.ref 0), some (.ref 1), some (.ref 53), some (.ref 69), some (.ref 70), some (.int (nI 0)), some (.int (nI 1)), none, none]) (st := [_]) (pc' := 1518) (lo' := [some (.ref 0), some (.ref 1), some (.ref 53), some (.ref 69), some (.ref 70), some (.int (nI 0)), some (.int (nI 1)), some _, none]) (st' := [.ref 53]) 200 rfl ?_
  refine am_B.callV (rc := 2) (rs := 400) (ci := 5) (n := 0) (as := []) rfl rfl rfl (mc_thrown _ 1 vs p3 p4) rfl rfl (by exact Nat.le_of_ble_eq_true rfl) rfl p3 rfl rfl (fun v h3 z => ?_)
  obtain ⟨rfl, rfl⟩ := z
  refine am_B.run (hp := false) (sp := []) (pc := 1521) (lo := [some (.ref 0), some (.ref 1), some (.ref 53), some (.ref 69), some (.ref 70), some (.int (nI 0)), some (.int (nI 1)), some _, none]) (st := [.int (nI 1)]) (pc' := 1523) (lo' := [some (.ref 0), some (.ref 1), some (.ref 53), some (.ref 69), some (.ref 70), some (.int (nI 0)), some (.int (nI 1)), some _, none]) (st' := [.int (nI 1), .int (nI 1)]) 200 rfl ?_
  refine am_B.icmp_eq rfl rfl (fun _ => ?_) (fun z => absurd rfl z)
  refine am_B.run (hp := false) (sp := []) (pc := 1528) (lo := [some (.ref 0), some (.ref 1), some (.ref 53), some (.ref 69), some (.ref 70), some (.int (nI 0)), some (.int (nI 1)), some _, none]) (st := []) (pc' := 1530) (lo' := [some (.ref 0), some (.ref 1), some (.ref 53), some (.ref 69), some (.ref 70), some (.int (nI 0)), some (.int (nI 1)), some _, none]) (st' := [.int (nI 1)]) 200 rfl ?_
  refine am_B.if_ne rfl rfl (fun _ => ?_) (fun z => absurd z (by decide))
  refine am_B.run (hp := false) (sp := [1893]) (pc := 1545) (lo := [some (.ref 0), some (.ref 1), some (.ref 53), some (.ref 69), some (.ref 70), some (.int (nI 0)), some (.int (nI 1)), some _, none]) (st := []) (pc' := 1893) (lo' := [some (.ref 0), some (.ref 1), some (.ref 53), some (.ref 69), some (.ref 70), some (.int (nI 0)), some (.int (nI 1)), some _, none]) (st' := []) 200 rfl ?_
  exact lw_up (lc_end nm xs _ h02 _ _ _ _ _)
set_option maxRecDepth 100000 in
set_option maxHeartbeats 4000000 in
theorem lc_fitness (nm : String) (xs : Nat → Int32) (h : am_H) (X : xF h) (M : mF h) (h0 : h[0]? = some (.inl (99, 5, .inl xs))) (h69 : h[69]? = some (la fun _ => 0)) (h70 : h[70]? = some (da fun _ => 0)) : lB nm 1604 [some (.ref 0), some (.ref 1), some (.ref 53), some (.ref 69), some (.ref 70), some (.int (nI 0)), none, none, none] [] h 3 406 := by
  refine lw_sub (rows := r_LW_law_23 ++ (r_LW_law_24)) (am_all_app ok_LW_law_23 (ok_LW_law_24)) ?_
  refine am_B.run (hp := false) (sp := [1605]) (pc := 1604) (lo := [some (.ref 0), some (.ref 1), some (.ref 53), some (.ref 69), some (.ref 70), some (.int (nI 0)), none, none, none]) (st := []) (pc' := 1605) (lo' := [some (.ref 0), some (.ref 1), some (.ref 53), some (.ref 69), some (.ref 70), some (.int (nI 0)), none, none, none]) (st' := [.ref 1]) 200 rfl ?_
  refine lw_ld 1605 1611 (j := 1) (v := xs 1) rfl rfl rfl (fun _ _ => rfl) rfl rfl (by decide) h0 rfl ?_
  refine am_B.run (hp := false) (sp := []) (pc := 1611) (lo := [some (.ref 0), some (.ref 1), some (.ref 53), some (.ref 69), some (.ref 70), some (.int (nI 0)), none, none, none]) (st := [.int (xs 1), .ref 1]) (pc' := 1613) (lo' := [some (.ref 0), some (.ref 1), some (.ref 53), some (.ref 69), some (.ref 70), some (.int (nI 0)), none, none, none]) (st' := [.ref 70, .int (xs 1), .ref 1]) 200 rfl ?_
  refine am_B.callSW (rc := 2) (rs := 400) (M := m_LW_fitness) (n := 3) (as := [.ref 1, .int (xs 1), .ref 70]) rfl rfl kw1_fitness kw2_fitness kw3_fitness kw5_LW kw4_fitness (ls_fitness h X (xs 1)) rfl rfl (by exact Nat.le_of_ble_eq_true rfl) rfl rfl rfl (fun v h' z => ?_)
  obtain ⟨rfl, o1⟩ := z
  have M1 : mF h' := M.of o1
  have h01 := (o1.2 0 (by have := M.1; omega) (Or.inl rfl)).trans h0
  refine am_B.run (hp := false) (sp := [1618]) (pc := 1616) (lo := [some (.ref 0), some (.ref 1), some (.ref 53), some (.ref 69), some (.ref 70), some (.int (nI 0)), none, none, none]) (st := [.int (nI 1)]) (pc' := 1618) (lo' := [some (.ref 0), some (.ref 1), some (.ref 53), some (.ref 69), some (.ref 70), some (.int (nI 0)), some (.int (nI 1)), none, none]) (st' := []) 200 rfl ?_
  refine am_B.run (hp := false) (sp := [1619]) (pc := 1618) (lo := [some (.ref 0), some (.ref 1), some (.ref 53), some (.ref 69), some (.ref 70), some (.int (nI 0)), some (.int (nI 1)), none, none]) (st := []) (pc' := 1619) (lo' := [some (.ref 0), some (.ref 1), some (.ref 53), some (.ref 69), some (.ref 70), some (.int (nI 0)), some (.int (nI 1)), none, none]) (st' := [.ref 53]) 200 rfl ?_
  refine lw_ld 1619 1625 (j := 1) (v := xs 1) rfl rfl rfl (fun _ _ => rfl) rfl rfl (by decide) h01 rfl ?_
  refine am_B.callV (rc := 2) (rs := 400) (ci := 5) (n := 1) (as := [.int (xs 1)]) rfl rfl rfl (mc_fitness _ M1 (xs 1)) rfl rfl (by exact Nat.le_of_ble_eq_true rfl) rfl M1.2.1 rfl rfl (fun v h2 z => ?_)
  obtain ⟨⟨db, rfl⟩, p1, p2, vs, p3, p4⟩ := z
  have h02 := (p2 0 (Or.inl rfl)).trans h01
  refine am_B.run (hp := false) (sp := []) (pc := 1628) (lo := [some (.ref 0), some (.ref 1), some (.ref 53), some (.ref 69), some (.ref 70), some (.int (nI 0)), some (.int (nI 1)), none, none]) (st := [_]) (pc' := 1631) (lo' := [some (.ref 0), some (.ref 1), some (.ref 53), some (.ref 69), some (.ref 70), some (.int (nI 0)), some (.int (nI 1)), some _, none]) (st' := [.ref 53]) 200 rfl ?_
  refine am_B.callV (rc := 2) (rs := 400) (ci := 5) (n := 0) (as := []) rfl rfl rfl (mc_thrown _ 1 vs p3 p4) rfl rfl (by exact Nat.le_of_ble_eq_true rfl) rfl p3 rfl rfl (fun v h3 z => ?_)
  obtain ⟨rfl, rfl⟩ := z
  refine am_B.run (hp := false) (sp := []) (pc := 1634) (lo := [some (.ref 0), some (.ref 1), some (.ref 53), some (.ref 69), some (.ref 70), some (.int (nI 0)), some (.int (nI 1)), some _, none]) (st := [.int (nI 1)]) (pc' := 1636) (lo' := [some (.ref 0), some (.ref 1), some (.ref 53), some (.ref 69), some (.ref 70), some (.int (nI 0)), some (.int (nI 1)), some _, none]) (st' := [.int (nI 1), .int (nI 1)]) 200 rfl ?_
  refine am_B.icmp_eq rfl rfl (fun _ => ?_) (fun z => absurd rfl z)
  refine am_B.run (hp := false) (sp := []) (pc := 1641) (lo := [some (.ref 0), some (.ref 1), some (.ref 53), some (.ref 69), some (.ref 70), some (.int (nI 0)), some (.int (nI 1)), some _, none]) (st := []) (pc' := 1643) (lo' := [some (.ref 0), some (.ref 1), some (.ref 53), some (.ref 69), some (.ref 70), some (.int (nI 0)), some (.int (nI 1)), some _, none]) (st' := [.int (nI 1)]) 200 rfl ?_
  refine am_B.if_ne rfl rfl (fun _ => ?_) (fun z => absurd z (by decide))
  refine am_B.run (hp := false) (sp := [1893]) (pc := 1678) (lo := [some (.ref 0), some (.ref 1), some (.ref 53), some (.ref 69), some (.ref 70), some (.int (nI 0)), some (.int (nI 1)), some _, none]) (st := []) (pc' := 1893) (lo' := [some (.ref 0), some (.ref 1), some (.ref 53), some (.ref 69), some (.ref 70), some (.int (nI 0)), some (.int (nI 1)), some _, none]) (st' := []) 200 rfl ?_
  exact lw_up (lc_end nm xs _ h02 _ _ _ _ _)
set_option maxRecDepth 100000 in
set_option maxHeartbeats 4000000 in
theorem lc_total (nm : String) (xs : Nat → Int32) (h : am_H) (X : xF h) (M : mF h) (h0 : h[0]? = some (.inl (99, 5, .inl xs))) (h69 : h[69]? = some (la fun _ => 0)) (h70 : h[70]? = some (da fun _ => 0)) (l : Nat) (hl : l < 6) (e1 : xs 1 = (nI 1)) (e2 : xs 2 = (nI l)) : lB nm 1681 [some (.ref 0), some (.ref 1), some (.ref 53), some (.ref 69), some (.ref 70), some (.int (nI 0)), none, none, none] [] h 3 406 := by
  refine lw_sub (rows := r_LW_law_24 ++ (r_LW_law_25)) (am_all_app ok_LW_law_24 (ok_LW_law_25)) ?_
  refine am_B.run (hp := false) (sp := [1682]) (pc := 1681) (lo := [some (.ref 0), some (.ref 1), some (.ref 53), some (.ref 69), some (.ref 70), some (.int (nI 0)), none, none, none]) (st := []) (pc' := 1682) (lo' := [some (.ref 0), some (.ref 1), some (.ref 53), some (.ref 69), some (.ref 70), some (.int (nI 0)), none, none, none]) (st' := [.ref 1]) 200 rfl ?_
  refine lw_ld 1682 1688 (j := 1) (v := (nI 1)) rfl rfl rfl (fun _ _ => rfl) rfl rfl (by decide) h0 e1 ?_
  refine lw_ld 1688 1694 (j := 2) (v := (nI l)) rfl rfl rfl (fun _ _ => rfl) rfl rfl (by decide) h0 e2 ?_
  refine am_B.run (hp := false) (sp := []) (pc := 1694) (lo := [some (.ref 0), some (.ref 1), some (.ref 53), some (.ref 69), some (.ref 70), some (.int (nI 0)), none, none, none]) (st := [.int ((nI l)), .int ((nI 1)), .ref 1]) (pc' := 1695) (lo' := [some (.ref 0), some (.ref 1), some (.ref 53), some (.ref 69), some (.ref 70), some (.int (nI 0)), none, none, none]) (st' := [.ref 69, .int ((nI l)), .int ((nI 1)), .ref 1]) 200 rfl ?_
  refine am_B.callSW (rc := 2) (rs := 400) (M := m_LW_total) (n := 4) (as := [.ref 1, .int (nI 1), .int (nI l), .ref 69]) rfl rfl kw1_total kw2_total kw3_total kw5_LW kw4_total (ls_total h X l hl (fun _ => 0) h69) rfl rfl (by exact Nat.le_of_ble_eq_true rfl) rfl rfl rfl (fun v h' z => ?_)
  obtain ⟨rfl, o1, g, hg, hg0⟩ := z
  have M1 : mF h' := M.of o1
  have h01 := (o1.2 0 (by have := M.1; omega) (Or.inl rfl)).trans h0
  refine am_B.run (hp := false) (sp := [1700]) (pc := 1698) (lo := [some (.ref 0), some (.ref 1), some (.ref 53), some (.ref 69), some (.ref 70), some (.int (nI 0)), none, none, none]) (st := [.int (nI 0)]) (pc' := 1700) (lo' := [some (.ref 0), some (.ref 1), some (.ref 53), some (.ref 69), some (.ref 70), some (.int (nI 0)), some (.int (nI 0)), none, none]) (st' := []) 200 rfl ?_
  refine am_B.run (hp := false) (sp := [1701]) (pc := 1700) (lo := [some (.ref 0), some (.ref 1), some (.ref 53), some (.ref 69), some (.ref 70), some (.int (nI 0)), some (.int (nI 0)), none, none]) (st := []) (pc' := 1701) (lo' := [some (.ref 0), some (.ref 1), some (.ref 53), some (.ref 69), some (.ref 70), some (.int (nI 0)), some (.int (nI 0)), none, none]) (st' := [.ref 53]) 200 rfl ?_
  refine lw_ld 1701 1707 (j := 1) (v := (nI 1)) rfl rfl rfl (fun _ _ => rfl) rfl rfl (by decide) h01 e1 ?_
  refine lw_ld 1707 1713 (j := 2) (v := (nI l)) rfl rfl rfl (fun _ _ => rfl) rfl rfl (by decide) h01 e2 ?_
  refine am_B.callV (rc := 2) (rs := 400) (ci := 5) (n := 2) (as := [.int (nI 1), .int (nI l)]) rfl rfl rfl (mc_total _ M1 l hl) rfl rfl (by exact Nat.le_of_ble_eq_true rfl) rfl M1.2.1 rfl rfl (fun v h2 z => ?_)
  obtain ⟨rfl, p1, p2, vs, p3, p4⟩ := z
  have h02 := (p2 0 (Or.inl rfl)).trans h01
  refine am_B.run (hp := false) (sp := []) (pc := 1716) (lo := [some (.ref 0), some (.ref 1), some (.ref 53), some (.ref 69), some (.ref 70), some (.int (nI 0)), some (.int (nI 0)), none, none]) (st := [_]) (pc' := 1719) (lo' := [some (.ref 0), some (.ref 1), some (.ref 53), some (.ref 69), some (.ref 70), some (.int (nI 0)), some (.int (nI 0)), some _, none]) (st' := [.ref 53]) 200 rfl ?_
  refine am_B.callV (rc := 2) (rs := 400) (ci := 5) (n := 0) (as := []) rfl rfl rfl (mc_thrown _ 0 vs p3 p4) rfl rfl (by exact Nat.le_of_ble_eq_true rfl) rfl p3 rfl rfl (fun v h3 z => ?_)
  obtain ⟨rfl, rfl⟩ := z
  refine am_B.run (hp := false) (sp := []) (pc := 1722) (lo := [some (.ref 0), some (.ref 1), some (.ref 53), some (.ref 69), some (.ref 70), some (.int (nI 0)), some (.int (nI 0)), some _, none]) (st := [.int (nI 0)]) (pc' := 1724) (lo' := [some (.ref 0), some (.ref 1), some (.ref 53), some (.ref 69), some (.ref 70), some (.int (nI 0)), some (.int (nI 0)), some _, none]) (st' := [.int (nI 0), .int (nI 0)]) 200 rfl ?_
  refine am_B.icmp_eq rfl rfl (fun _ => ?_) (fun z => absurd rfl z)
  refine am_B.run (hp := false) (sp := []) (pc := 1729) (lo := [some (.ref 0), some (.ref 1), some (.ref 53), some (.ref 69), some (.ref 70), some (.int (nI 0)), some (.int (nI 0)), some _, none]) (st := []) (pc' := 1731) (lo' := [some (.ref 0), some (.ref 1), some (.ref 53), some (.ref 69), some (.ref 70), some (.int (nI 0)), some (.int (nI 0)), some _, none]) (st' := [.int (nI 0)]) 200 rfl ?_
  refine am_B.if_ne rfl rfl (fun z => absurd rfl z) (fun _ => ?_)
  refine am_B.run (hp := false) (sp := []) (pc := 1734) (lo := [some (.ref 0), some (.ref 1), some (.ref 53), some (.ref 69), some (.ref 70), some (.int (nI 0)), some (.int (nI 0)), some _, none]) (st := []) (pc' := 1736) (lo' := [some (.ref 0), some (.ref 1), some (.ref 53), some (.ref 69), some (.ref 70), some (.int (nI 0)), some (.int (nI 0)), some _, none]) (st' := [.int (nI 0), .ref 69]) 200 rfl ?_
  refine am_B.ald rfl ((p2 69 (by decide)).trans hg) (vp_n (show 0 < 1 by decide) rfl) rfl ?_
  rw [nI_clamp (show 0 < 2 ^ 31 by decide), hg0]
  refine am_B.run (hp := false) (sp := []) 200 rfl ?_
  refine am_B.if_eq rfl rfl (fun _ => ?_) (fun z => absurd (by first | decide | rfl | decide +kernel) z)
  refine am_B.run (hp := false) (sp := [1893]) 200 rfl ?_
  exact lw_up (lc_end nm xs _ h02 _ _ _ _ _)
set_option maxRecDepth 100000 in
set_option maxHeartbeats 4000000 in
theorem lc_totalA (nm : String) (xs : Nat → Int32) (h : am_H) (X : xF h) (M : mF h) (h0 : h[0]? = some (.inl (99, 5, .inl xs))) (h69 : h[69]? = some (la fun _ => 0)) (h70 : h[70]? = some (da fun _ => 0)) (hx : xbad (xs 1) 3) : lB nm 1681 [some (.ref 0), some (.ref 1), some (.ref 53), some (.ref 69), some (.ref 70), some (.int (nI 0)), none, none, none] [] h 3 406 := by
  refine lw_sub (rows := r_LW_law_24 ++ (r_LW_law_25)) (am_all_app ok_LW_law_24 (ok_LW_law_25)) ?_
  refine am_B.run (hp := false) (sp := [1682]) (pc := 1681) (lo := [some (.ref 0), some (.ref 1), some (.ref 53), some (.ref 69), some (.ref 70), some (.int (nI 0)), none, none, none]) (st := []) (pc' := 1682) (lo' := [some (.ref 0), some (.ref 1), some (.ref 53), some (.ref 69), some (.ref 70), some (.int (nI 0)), none, none, none]) (st' := [.ref 1]) 200 rfl ?_
  refine lw_ld 1682 1688 (j := 1) (v := xs 1) rfl rfl rfl (fun _ _ => rfl) rfl rfl (by decide) h0 rfl ?_
  refine lw_ld 1688 1694 (j := 2) (v := xs 2) rfl rfl rfl (fun _ _ => rfl) rfl rfl (by decide) h0 rfl ?_
  refine am_B.run (hp := false) (sp := []) (pc := 1694) (lo := [some (.ref 0), some (.ref 1), some (.ref 53), some (.ref 69), some (.ref 70), some (.int (nI 0)), none, none, none]) (st := [.int (xs 2), .int (xs 1), .ref 1]) (pc' := 1695) (lo' := [some (.ref 0), some (.ref 1), some (.ref 53), some (.ref 69), some (.ref 70), some (.int (nI 0)), none, none, none]) (st' := [.ref 69, .int (xs 2), .int (xs 1), .ref 1]) 200 rfl ?_
  refine am_B.callSW (rc := 2) (rs := 400) (M := m_LW_total) (n := 4) (as := [.ref 1, .int (xs 1), .int (xs 2), .ref 69]) rfl rfl kw1_total kw2_total kw3_total kw5_LW kw4_total (ls_totalB h X (xs 1) (xs 2) (Or.inl hx)) rfl rfl (by exact Nat.le_of_ble_eq_true rfl) rfl rfl rfl (fun v h' z => ?_)
  obtain ⟨rfl, o1⟩ := z
  have M1 : mF h' := M.of o1
  have h01 := (o1.2 0 (by have := M.1; omega) (Or.inl rfl)).trans h0
  refine am_B.run (hp := false) (sp := [1700]) (pc := 1698) (lo := [some (.ref 0), some (.ref 1), some (.ref 53), some (.ref 69), some (.ref 70), some (.int (nI 0)), none, none, none]) (st := [.int (nI 1)]) (pc' := 1700) (lo' := [some (.ref 0), some (.ref 1), some (.ref 53), some (.ref 69), some (.ref 70), some (.int (nI 0)), some (.int (nI 1)), none, none]) (st' := []) 200 rfl ?_
  refine am_B.run (hp := false) (sp := [1701]) (pc := 1700) (lo := [some (.ref 0), some (.ref 1), some (.ref 53), some (.ref 69), some (.ref 70), some (.int (nI 0)), some (.int (nI 1)), none, none]) (st := []) (pc' := 1701) (lo' := [some (.ref 0), some (.ref 1), some (.ref 53), some (.ref 69), some (.ref 70), some (.int (nI 0)), some (.int (nI 1)), none, none]) (st' := [.ref 53]) 200 rfl ?_
  refine lw_ld 1701 1707 (j := 1) (v := xs 1) rfl rfl rfl (fun _ _ => rfl) rfl rfl (by decide) h01 rfl ?_
  refine lw_ld 1707 1713 (j := 2) (v := xs 2) rfl rfl rfl (fun _ _ => rfl) rfl rfl (by decide) h01 rfl ?_
  refine am_B.callV (rc := 2) (rs := 400) (ci := 5) (n := 2) (as := [.int (xs 1), .int (xs 2)]) rfl rfl rfl (mc_totalA _ M1 (xs 1) (xs 2) hx) rfl rfl (by exact Nat.le_of_ble_eq_true rfl) rfl M1.2.1 rfl rfl (fun v h2 z => ?_)
  obtain ⟨rfl, p1, p2, vs, p3, p4⟩ := z
  have h02 := (p2 0 (Or.inl rfl)).trans h01
  refine am_B.run (hp := false) (sp := []) (pc := 1716) (lo := [some (.ref 0), some (.ref 1), some (.ref 53), some (.ref 69), some (.ref 70), some (.int (nI 0)), some (.int (nI 1)), none, none]) (st := [_]) (pc' := 1719) (lo' := [some (.ref 0), some (.ref 1), some (.ref 53), some (.ref 69), some (.ref 70), some (.int (nI 0)), some (.int (nI 1)), some _, none]) (st' := [.ref 53]) 200 rfl ?_
  refine am_B.callV (rc := 2) (rs := 400) (ci := 5) (n := 0) (as := []) rfl rfl rfl (mc_thrown _ 1 vs p3 p4) rfl rfl (by exact Nat.le_of_ble_eq_true rfl) rfl p3 rfl rfl (fun v h3 z => ?_)
  obtain ⟨rfl, rfl⟩ := z
  refine am_B.run (hp := false) (sp := []) (pc := 1722) (lo := [some (.ref 0), some (.ref 1), some (.ref 53), some (.ref 69), some (.ref 70), some (.int (nI 0)), some (.int (nI 1)), some _, none]) (st := [.int (nI 1)]) (pc' := 1724) (lo' := [some (.ref 0), some (.ref 1), some (.ref 53), some (.ref 69), some (.ref 70), some (.int (nI 0)), some (.int (nI 1)), some _, none]) (st' := [.int (nI 1), .int (nI 1)]) 200 rfl ?_
  refine am_B.icmp_eq rfl rfl (fun _ => ?_) (fun z => absurd rfl z)
  refine am_B.run (hp := false) (sp := []) (pc := 1729) (lo := [some (.ref 0), some (.ref 1), some (.ref 53), some (.ref 69), some (.ref 70), some (.int (nI 0)), some (.int (nI 1)), some _, none]) (st := []) (pc' := 1731) (lo' := [some (.ref 0), some (.ref 1), some (.ref 53), some (.ref 69), some (.ref 70), some (.int (nI 0)), some (.int (nI 1)), some _, none]) (st' := [.int (nI 1)]) 200 rfl ?_
  refine am_B.if_ne rfl rfl (fun _ => ?_) (fun z => absurd z (by decide))
  refine am_B.run (hp := false) (sp := [1893]) (pc := 1746) (lo := [some (.ref 0), some (.ref 1), some (.ref 53), some (.ref 69), some (.ref 70), some (.int (nI 0)), some (.int (nI 1)), some _, none]) (st := []) (pc' := 1893) (lo' := [some (.ref 0), some (.ref 1), some (.ref 53), some (.ref 69), some (.ref 70), some (.int (nI 0)), some (.int (nI 1)), some _, none]) (st' := []) 200 rfl ?_
  exact lw_up (lc_end nm xs _ h02 _ _ _ _ _)
set_option maxRecDepth 100000 in
set_option maxHeartbeats 4000000 in
theorem lc_totalT0 (nm : String) (xs : Nat → Int32) (h : am_H) (X : xF h) (M : mF h) (h0 : h[0]? = some (.inl (99, 5, .inl xs))) (h69 : h[69]? = some (la fun _ => 0)) (h70 : h[70]? = some (da fun _ => 0)) (e1 : xs 1 = (nI 0)) : lB nm 1681 [some (.ref 0), some (.ref 1), some (.ref 53), some (.ref 69), some (.ref 70), some (.int (nI 0)), none, none, none] [] h 3 406 := by
  refine lw_sub (rows := r_LW_law_24 ++ (r_LW_law_25)) (am_all_app ok_LW_law_24 (ok_LW_law_25)) ?_
  refine am_B.run (hp := false) (sp := [1682]) (pc := 1681) (lo := [some (.ref 0), some (.ref 1), some (.ref 53), some (.ref 69), some (.ref 70), some (.int (nI 0)), none, none, none]) (st := []) (pc' := 1682) (lo' := [some (.ref 0), some (.ref 1), some (.ref 53), some (.ref 69), some (.ref 70), some (.int (nI 0)), none, none, none]) (st' := [.ref 1]) 200 rfl ?_
  refine lw_ld 1682 1688 (j := 1) (v := (nI 0)) rfl rfl rfl (fun _ _ => rfl) rfl rfl (by decide) h0 e1 ?_
  refine lw_ld 1688 1694 (j := 2) (v := xs 2) rfl rfl rfl (fun _ _ => rfl) rfl rfl (by decide) h0 rfl ?_
  refine am_B.run (hp := false) (sp := []) (pc := 1694) (lo := [some (.ref 0), some (.ref 1), some (.ref 53), some (.ref 69), some (.ref 70), some (.int (nI 0)), none, none, none]) (st := [.int (xs 2), .int ((nI 0)), .ref 1]) (pc' := 1695) (lo' := [some (.ref 0), some (.ref 1), some (.ref 53), some (.ref 69), some (.ref 70), some (.int (nI 0)), none, none, none]) (st' := [.ref 69, .int (xs 2), .int ((nI 0)), .ref 1]) 200 rfl ?_
  refine am_B.callSW (rc := 2) (rs := 400) (M := m_LW_total) (n := 4) (as := [.ref 1, .int (nI 0), .int (xs 2), .ref 69]) rfl rfl kw1_total kw2_total kw3_total kw5_LW kw4_total (ls_totalB h X (nI 0) (xs 2) (Or.inr ⟨0, by decide, rfl, Or.inr (by decide)⟩)) rfl rfl (by exact Nat.le_of_ble_eq_true rfl) rfl rfl rfl (fun v h' z => ?_)
  obtain ⟨rfl, o1⟩ := z
  have M1 : mF h' := M.of o1
  have h01 := (o1.2 0 (by have := M.1; omega) (Or.inl rfl)).trans h0
  refine am_B.run (hp := false) (sp := [1700]) (pc := 1698) (lo := [some (.ref 0), some (.ref 1), some (.ref 53), some (.ref 69), some (.ref 70), some (.int (nI 0)), none, none, none]) (st := [.int (nI 1)]) (pc' := 1700) (lo' := [some (.ref 0), some (.ref 1), some (.ref 53), some (.ref 69), some (.ref 70), some (.int (nI 0)), some (.int (nI 1)), none, none]) (st' := []) 200 rfl ?_
  refine am_B.run (hp := false) (sp := [1701]) (pc := 1700) (lo := [some (.ref 0), some (.ref 1), some (.ref 53), some (.ref 69), some (.ref 70), some (.int (nI 0)), some (.int (nI 1)), none, none]) (st := []) (pc' := 1701) (lo' := [some (.ref 0), some (.ref 1), some (.ref 53), some (.ref 69), some (.ref 70), some (.int (nI 0)), some (.int (nI 1)), none, none]) (st' := [.ref 53]) 200 rfl ?_
  refine lw_ld 1701 1707 (j := 1) (v := (nI 0)) rfl rfl rfl (fun _ _ => rfl) rfl rfl (by decide) h01 e1 ?_
  refine lw_ld 1707 1713 (j := 2) (v := xs 2) rfl rfl rfl (fun _ _ => rfl) rfl rfl (by decide) h01 rfl ?_
  refine am_B.callV (rc := 2) (rs := 400) (ci := 5) (n := 2) (as := [.int (nI 0), .int (xs 2)]) rfl rfl rfl (mc_totalT0 _ M1 (xs 2)) rfl rfl (by exact Nat.le_of_ble_eq_true rfl) rfl M1.2.1 rfl rfl (fun v h2 z => ?_)
  obtain ⟨rfl, p1, p2, vs, p3, p4⟩ := z
  have h02 := (p2 0 (Or.inl rfl)).trans h01
  refine am_B.run (hp := false) (sp := []) (pc := 1716) (lo := [some (.ref 0), some (.ref 1), some (.ref 53), some (.ref 69), some (.ref 70), some (.int (nI 0)), some (.int (nI 1)), none, none]) (st := [_]) (pc' := 1719) (lo' := [some (.ref 0), some (.ref 1), some (.ref 53), some (.ref 69), some (.ref 70), some (.int (nI 0)), some (.int (nI 1)), some _, none]) (st' := [.ref 53]) 200 rfl ?_
  refine am_B.callV (rc := 2) (rs := 400) (ci := 5) (n := 0) (as := []) rfl rfl rfl (mc_thrown _ 1 vs p3 p4) rfl rfl (by exact Nat.le_of_ble_eq_true rfl) rfl p3 rfl rfl (fun v h3 z => ?_)
  obtain ⟨rfl, rfl⟩ := z
  refine am_B.run (hp := false) (sp := []) (pc := 1722) (lo := [some (.ref 0), some (.ref 1), some (.ref 53), some (.ref 69), some (.ref 70), some (.int (nI 0)), some (.int (nI 1)), some _, none]) (st := [.int (nI 1)]) (pc' := 1724) (lo' := [some (.ref 0), some (.ref 1), some (.ref 53), some (.ref 69), some (.ref 70), some (.int (nI 0)), some (.int (nI 1)), some _, none]) (st' := [.int (nI 1), .int (nI 1)]) 200 rfl ?_
  refine am_B.icmp_eq rfl rfl (fun _ => ?_) (fun z => absurd rfl z)
  refine am_B.run (hp := false) (sp := []) (pc := 1729) (lo := [some (.ref 0), some (.ref 1), some (.ref 53), some (.ref 69), some (.ref 70), some (.int (nI 0)), some (.int (nI 1)), some _, none]) (st := []) (pc' := 1731) (lo' := [some (.ref 0), some (.ref 1), some (.ref 53), some (.ref 69), some (.ref 70), some (.int (nI 0)), some (.int (nI 1)), some _, none]) (st' := [.int (nI 1)]) 200 rfl ?_
  refine am_B.if_ne rfl rfl (fun _ => ?_) (fun z => absurd z (by decide))
  refine am_B.run (hp := false) (sp := [1893]) (pc := 1746) (lo := [some (.ref 0), some (.ref 1), some (.ref 53), some (.ref 69), some (.ref 70), some (.int (nI 0)), some (.int (nI 1)), some _, none]) (st := []) (pc' := 1893) (lo' := [some (.ref 0), some (.ref 1), some (.ref 53), some (.ref 69), some (.ref 70), some (.int (nI 0)), some (.int (nI 1)), some _, none]) (st' := []) 200 rfl ?_
  exact lw_up (lc_end nm xs _ h02 _ _ _ _ _)
set_option maxRecDepth 100000 in
set_option maxHeartbeats 4000000 in
theorem lc_totalT2 (nm : String) (xs : Nat → Int32) (h : am_H) (X : xF h) (M : mF h) (h0 : h[0]? = some (.inl (99, 5, .inl xs))) (h69 : h[69]? = some (la fun _ => 0)) (h70 : h[70]? = some (da fun _ => 0)) (e1 : xs 1 = (nI 2)) : lB nm 1681 [some (.ref 0), some (.ref 1), some (.ref 53), some (.ref 69), some (.ref 70), some (.int (nI 0)), none, none, none] [] h 3 406 := by
  refine lw_sub (rows := r_LW_law_24 ++ (r_LW_law_25)) (am_all_app ok_LW_law_24 (ok_LW_law_25)) ?_
  refine am_B.run (hp := false) (sp := [1682]) (pc := 1681) (lo := [some (.ref 0), some (.ref 1), some (.ref 53), some (.ref 69), some (.ref 70), some (.int (nI 0)), none, none, none]) (st := []) (pc' := 1682) (lo' := [some (.ref 0), some (.ref 1), some (.ref 53), some (.ref 69), some (.ref 70), some (.int (nI 0)), none, none, none]) (st' := [.ref 1]) 200 rfl ?_
  refine lw_ld 1682 1688 (j := 1) (v := (nI 2)) rfl rfl rfl (fun _ _ => rfl) rfl rfl (by decide) h0 e1 ?_
  refine lw_ld 1688 1694 (j := 2) (v := xs 2) rfl rfl rfl (fun _ _ => rfl) rfl rfl (by decide) h0 rfl ?_
  refine am_B.run (hp := false) (sp := []) (pc := 1694) (lo := [some (.ref 0), some (.ref 1), some (.ref 53), some (.ref 69), some (.ref 70), some (.int (nI 0)), none, none, none]) (st := [.int (xs 2), .int ((nI 2)), .ref 1]) (pc' := 1695) (lo' := [some (.ref 0), some (.ref 1), some (.ref 53), some (.ref 69), some (.ref 70), some (.int (nI 0)), none, none, none]) (st' := [.ref 69, .int (xs 2), .int ((nI 2)), .ref 1]) 200 rfl ?_
  refine am_B.callSW (rc := 2) (rs := 400) (M := m_LW_total) (n := 4) (as := [.ref 1, .int (nI 2), .int (xs 2), .ref 69]) rfl rfl kw1_total kw2_total kw3_total kw5_LW kw4_total (ls_totalB h X (nI 2) (xs 2) (Or.inr ⟨2, by decide, rfl, Or.inr (by decide)⟩)) rfl rfl (by exact Nat.le_of_ble_eq_true rfl) rfl rfl rfl (fun v h' z => ?_)
  obtain ⟨rfl, o1⟩ := z
  have M1 : mF h' := M.of o1
  have h01 := (o1.2 0 (by have := M.1; omega) (Or.inl rfl)).trans h0
  refine am_B.run (hp := false) (sp := [1700]) (pc := 1698) (lo := [some (.ref 0), some (.ref 1), some (.ref 53), some (.ref 69), some (.ref 70), some (.int (nI 0)), none, none, none]) (st := [.int (nI 1)]) (pc' := 1700) (lo' := [some (.ref 0), some (.ref 1), some (.ref 53), some (.ref 69), some (.ref 70), some (.int (nI 0)), some (.int (nI 1)), none, none]) (st' := []) 200 rfl ?_
  refine am_B.run (hp := false) (sp := [1701]) (pc := 1700) (lo := [some (.ref 0), some (.ref 1), some (.ref 53), some (.ref 69), some (.ref 70), some (.int (nI 0)), some (.int (nI 1)), none, none]) (st := []) (pc' := 1701) (lo' := [some (.ref 0), some (.ref 1), some (.ref 53), some (.ref 69), some (.ref 70), some (.int (nI 0)), some (.int (nI 1)), none, none]) (st' := [.ref 53]) 200 rfl ?_
  refine lw_ld 1701 1707 (j := 1) (v := (nI 2)) rfl rfl rfl (fun _ _ => rfl) rfl rfl (by decide) h01 e1 ?_
  refine lw_ld 1707 1713 (j := 2) (v := xs 2) rfl rfl rfl (fun _ _ => rfl) rfl rfl (by decide) h01 rfl ?_
  refine am_B.callV (rc := 2) (rs := 400) (ci := 5) (n := 2) (as := [.int (nI 2), .int (xs 2)]) rfl rfl rfl (mc_totalT2 _ M1 (xs 2)) rfl rfl (by exact Nat.le_of_ble_eq_true rfl) rfl M1.2.1 rfl rfl (fun v h2 z => ?_)
  obtain ⟨rfl, p1, p2, vs, p3, p4⟩ := z
  have h02 := (p2 0 (Or.inl rfl)).trans h01
  refine am_B.run (hp := false) (sp := []) (pc := 1716) (lo := [some (.ref 0), some (.ref 1), some (.ref 53), some (.ref 69), some (.ref 70), some (.int (nI 0)), some (.int (nI 1)), none, none]) (st := [_]) (pc' := 1719) (lo' := [some (.ref 0), some (.ref 1), some (.ref 53), some (.ref 69), some (.ref 70), some (.int (nI 0)), some (.int (nI 1)), some _, none]) (st' := [.ref 53]) 200 rfl ?_
  refine am_B.callV (rc := 2) (rs := 400) (ci := 5) (n := 0) (as := []) rfl rfl rfl (mc_thrown _ 1 vs p3 p4) rfl rfl (by exact Nat.le_of_ble_eq_true rfl) rfl p3 rfl rfl (fun v h3 z => ?_)
  obtain ⟨rfl, rfl⟩ := z
  refine am_B.run (hp := false) (sp := []) (pc := 1722) (lo := [some (.ref 0), some (.ref 1), some (.ref 53), some (.ref 69), some (.ref 70), some (.int (nI 0)), some (.int (nI 1)), some _, none]) (st := [.int (nI 1)]) (pc' := 1724) (lo' := [some (.ref 0), some (.ref 1), some (.ref 53), some (.ref 69), some (.ref 70), some (.int (nI 0)), some (.int (nI 1)), some _, none]) (st' := [.int (nI 1), .int (nI 1)]) 200 rfl ?_
  refine am_B.icmp_eq rfl rfl (fun _ => ?_) (fun z => absurd rfl z)
  refine am_B.run (hp := false) (sp := []) (pc := 1729) (lo := [some (.ref 0), some (.ref 1), some (.ref 53), some (.ref 69), some (.ref 70), some (.int (nI 0)), some (.int (nI 1)), some _, none]) (st := []) (pc' := 1731) (lo' := [some (.ref 0), some (.ref 1), some (.ref 53), some (.ref 69), some (.ref 70), some (.int (nI 0)), some (.int (nI 1)), some _, none]) (st' := [.int (nI 1)]) 200 rfl ?_
  refine am_B.if_ne rfl rfl (fun _ => ?_) (fun z => absurd z (by decide))
  refine am_B.run (hp := false) (sp := [1893]) (pc := 1746) (lo := [some (.ref 0), some (.ref 1), some (.ref 53), some (.ref 69), some (.ref 70), some (.int (nI 0)), some (.int (nI 1)), some _, none]) (st := []) (pc' := 1893) (lo' := [some (.ref 0), some (.ref 1), some (.ref 53), some (.ref 69), some (.ref 70), some (.int (nI 0)), some (.int (nI 1)), some _, none]) (st' := []) 200 rfl ?_
  exact lw_up (lc_end nm xs _ h02 _ _ _ _ _)
set_option maxRecDepth 100000 in
set_option maxHeartbeats 4000000 in
theorem lc_totalL (nm : String) (xs : Nat → Int32) (h : am_H) (X : xF h) (M : mF h) (h0 : h[0]? = some (.inl (99, 5, .inl xs))) (h69 : h[69]? = some (la fun _ => 0)) (h70 : h[70]? = some (da fun _ => 0)) (hx : xbad (xs 2) 6) (e1 : xs 1 = (nI 1)) : lB nm 1681 [some (.ref 0), some (.ref 1), some (.ref 53), some (.ref 69), some (.ref 70), some (.int (nI 0)), none, none, none] [] h 3 406 := by
  refine lw_sub (rows := r_LW_law_24 ++ (r_LW_law_25)) (am_all_app ok_LW_law_24 (ok_LW_law_25)) ?_
  refine am_B.run (hp := false) (sp := [1682]) (pc := 1681) (lo := [some (.ref 0), some (.ref 1), some (.ref 53), some (.ref 69), some (.ref 70), some (.int (nI 0)), none, none, none]) (st := []) (pc' := 1682) (lo' := [some (.ref 0), some (.ref 1), some (.ref 53), some (.ref 69), some (.ref 70), some (.int (nI 0)), none, none, none]) (st' := [.ref 1]) 200 rfl ?_
  refine lw_ld 1682 1688 (j := 1) (v := (nI 1)) rfl rfl rfl (fun _ _ => rfl) rfl rfl (by decide) h0 e1 ?_
  refine lw_ld 1688 1694 (j := 2) (v := xs 2) rfl rfl rfl (fun _ _ => rfl) rfl rfl (by decide) h0 rfl ?_
  refine am_B.run (hp := false) (sp := []) (pc := 1694) (lo := [some (.ref 0), some (.ref 1), some (.ref 53), some (.ref 69), some (.ref 70), some (.int (nI 0)), none, none, none]) (st := [.int (xs 2), .int ((nI 1)), .ref 1]) (pc' := 1695) (lo' := [some (.ref 0), some (.ref 1), some (.ref 53), some (.ref 69), some (.ref 70), some (.int (nI 0)), none, none, none]) (st' := [.ref 69, .int (xs 2), .int ((nI 1)), .ref 1]) 200 rfl ?_
  refine am_B.callSW (rc := 2) (rs := 400) (M := m_LW_total) (n := 4) (as := [.ref 1, .int (nI 1), .int (xs 2), .ref 69]) rfl rfl kw1_total kw2_total kw3_total kw5_LW kw4_total (ls_totalB h X (nI 1) (xs 2) (Or.inr ⟨1, by decide, rfl, Or.inl ⟨rfl, hx⟩⟩)) rfl rfl (by exact Nat.le_of_ble_eq_true rfl) rfl rfl rfl (fun v h' z => ?_)
  obtain ⟨rfl, o1⟩ := z
  have M1 : mF h' := M.of o1
  have h01 := (o1.2 0 (by have := M.1; omega) (Or.inl rfl)).trans h0
  refine am_B.run (hp := false) (sp := [1700]) (pc := 1698) (lo := [some (.ref 0), some (.ref 1), some (.ref 53), some (.ref 69), some (.ref 70), some (.int (nI 0)), none, none, none]) (st := [.int (nI 1)]) (pc' := 1700) (lo' := [some (.ref 0), some (.ref 1), some (.ref 53), some (.ref 69), some (.ref 70), some (.int (nI 0)), some (.int (nI 1)), none, none]) (st' := []) 200 rfl ?_
  refine am_B.run (hp := false) (sp := [1701]) (pc := 1700) (lo := [some (.ref 0), some (.ref 1), some (.ref 53), some (.ref 69), some (.ref 70), some (.int (nI 0)), some (.int (nI 1)), none, none]) (st := []) (pc' := 1701) (lo' := [some (.ref 0), some (.ref 1), some (.ref 53), some (.ref 69), some (.ref 70), some (.int (nI 0)), some (.int (nI 1)), none, none]) (st' := [.ref 53]) 200 rfl ?_
  refine lw_ld 1701 1707 (j := 1) (v := (nI 1)) rfl rfl rfl (fun _ _ => rfl) rfl rfl (by decide) h01 e1 ?_
  refine lw_ld 1707 1713 (j := 2) (v := xs 2) rfl rfl rfl (fun _ _ => rfl) rfl rfl (by decide) h01 rfl ?_
  refine am_B.callV (rc := 2) (rs := 400) (ci := 5) (n := 2) (as := [.int (nI 1), .int (xs 2)]) rfl rfl rfl (mc_totalL _ M1 (xs 2) hx) rfl rfl (by exact Nat.le_of_ble_eq_true rfl) rfl M1.2.1 rfl rfl (fun v h2 z => ?_)
  obtain ⟨rfl, p1, p2, vs, p3, p4⟩ := z
  have h02 := (p2 0 (Or.inl rfl)).trans h01
  refine am_B.run (hp := false) (sp := []) (pc := 1716) (lo := [some (.ref 0), some (.ref 1), some (.ref 53), some (.ref 69), some (.ref 70), some (.int (nI 0)), some (.int (nI 1)), none, none]) (st := [_]) (pc' := 1719) (lo' := [some (.ref 0), some (.ref 1), some (.ref 53), some (.ref 69), some (.ref 70), some (.int (nI 0)), some (.int (nI 1)), some _, none]) (st' := [.ref 53]) 200 rfl ?_
  refine am_B.callV (rc := 2) (rs := 400) (ci := 5) (n := 0) (as := []) rfl rfl rfl (mc_thrown _ 1 vs p3 p4) rfl rfl (by exact Nat.le_of_ble_eq_true rfl) rfl p3 rfl rfl (fun v h3 z => ?_)
  obtain ⟨rfl, rfl⟩ := z
  refine am_B.run (hp := false) (sp := []) (pc := 1722) (lo := [some (.ref 0), some (.ref 1), some (.ref 53), some (.ref 69), some (.ref 70), some (.int (nI 0)), some (.int (nI 1)), some _, none]) (st := [.int (nI 1)]) (pc' := 1724) (lo' := [some (.ref 0), some (.ref 1), some (.ref 53), some (.ref 69), some (.ref 70), some (.int (nI 0)), some (.int (nI 1)), some _, none]) (st' := [.int (nI 1), .int (nI 1)]) 200 rfl ?_
  refine am_B.icmp_eq rfl rfl (fun _ => ?_) (fun z => absurd rfl z)
  refine am_B.run (hp := false) (sp := []) (pc := 1729) (lo := [some (.ref 0), some (.ref 1), some (.ref 53), some (.ref 69), some (.ref 70), some (.int (nI 0)), some (.int (nI 1)), some _, none]) (st := []) (pc' := 1731) (lo' := [some (.ref 0), some (.ref 1), some (.ref 53), some (.ref 69), some (.ref 70), some (.int (nI 0)), some (.int (nI 1)), some _, none]) (st' := [.int (nI 1)]) 200 rfl ?_
  refine am_B.if_ne rfl rfl (fun _ => ?_) (fun z => absurd z (by decide))
  refine am_B.run (hp := false) (sp := [1893]) (pc := 1746) (lo := [some (.ref 0), some (.ref 1), some (.ref 53), some (.ref 69), some (.ref 70), some (.int (nI 0)), some (.int (nI 1)), some _, none]) (st := []) (pc' := 1893) (lo' := [some (.ref 0), some (.ref 1), some (.ref 53), some (.ref 69), some (.ref 70), some (.int (nI 0)), some (.int (nI 1)), some _, none]) (st' := []) 200 rfl ?_
  exact lw_up (lc_end nm xs _ h02 _ _ _ _ _)
set_option maxRecDepth 100000 in
set_option maxHeartbeats 4000000 in
theorem lc_allFitness (nm : String) (xs : Nat → Int32) (h : am_H) (X : xF h) (M : mF h) (h0 : h[0]? = some (.inl (99, 5, .inl xs))) (h69 : h[69]? = some (la fun _ => 0)) (h70 : h[70]? = some (da fun _ => 0)) : lB nm 1749 [some (.ref 0), some (.ref 1), some (.ref 53), some (.ref 69), some (.ref 70), some (.int (nI 0)), none, none, none] [] h 3 406 := by
  refine lw_sub (rows := r_LW_law_25 ++ (r_LW_law_26)) (am_all_app ok_LW_law_25 (ok_LW_law_26)) ?_
  refine am_B.run (hp := false) (sp := [1750]) (pc := 1749) (lo := [some (.ref 0), some (.ref 1), some (.ref 53), some (.ref 69), some (.ref 70), some (.int (nI 0)), none, none, none]) (st := []) (pc' := 1750) (lo' := [some (.ref 0), some (.ref 1), some (.ref 53), some (.ref 69), some (.ref 70), some (.int (nI 0)), none, none, none]) (st' := [.ref 1]) 200 rfl ?_
  refine am_B.run (hp := false) (sp := []) (pc := 1750) (lo := [some (.ref 0), some (.ref 1), some (.ref 53), some (.ref 69), some (.ref 70), some (.int (nI 0)), none, none, none]) (st := [.ref 1]) (pc' := 1752) (lo' := [some (.ref 0), some (.ref 1), some (.ref 53), some (.ref 69), some (.ref 70), some (.int (nI 0)), none, none, none]) (st' := [.ref 70, .ref 1]) 200 rfl ?_
  refine am_B.callSW (rc := 2) (rs := 400) (M := m_LW_allFitness) (n := 2) (as := [.ref 1, .ref 70]) rfl rfl kw1_allFitness kw2_allFitness kw3_allFitness kw5_LW kw4_allFitness (ls_allFitness h X (fun _ => 0) h70) rfl rfl (by exact Nat.le_of_ble_eq_true rfl) rfl rfl rfl (fun v h' z => ?_)
  obtain ⟨rfl, o1, g, hg, hg0⟩ := z
  have M1 : mF h' := M.of o1
  have h01 := (o1.2 0 (by have := M.1; omega) (Or.inl rfl)).trans h0
  refine am_B.run (hp := false) (sp := [1757]) (pc := 1755) (lo := [some (.ref 0), some (.ref 1), some (.ref 53), some (.ref 69), some (.ref 70), some (.int (nI 0)), none, none, none]) (st := [.int (nI 0)]) (pc' := 1757) (lo' := [some (.ref 0), some (.ref 1), some (.ref 53), some (.ref 69), some (.ref 70), some (.int (nI 0)), some (.int (nI 0)), none, none]) (st' := []) 200 rfl ?_
  refine am_B.run (hp := false) (sp := [1758]) (pc := 1757) (lo := [some (.ref 0), some (.ref 1), some (.ref 53), some (.ref 69), some (.ref 70), some (.int (nI 0)), some (.int (nI 0)), none, none]) (st := []) (pc' := 1758) (lo' := [some (.ref 0), some (.ref 1), some (.ref 53), some (.ref 69), some (.ref 70), some (.int (nI 0)), some (.int (nI 0)), none, none]) (st' := [.ref 53]) 200 rfl ?_
  refine am_B.callV (rc := 2) (rs := 400) (ci := 5) (n := 0) (as := []) rfl rfl rfl (mc_allFitness _ M1) rfl rfl (by exact Nat.le_of_ble_eq_true rfl) rfl M1.2.1 rfl rfl (fun v h2 z => ?_)
  obtain ⟨rfl, p1, p2, vs, p3, p4⟩ := z
  have h02 := (p2 0 (Or.inl rfl)).trans h01
  refine am_B.run (hp := false) (sp := []) (pc := 1761) (lo := [some (.ref 0), some (.ref 1), some (.ref 53), some (.ref 69), some (.ref 70), some (.int (nI 0)), some (.int (nI 0)), none, none]) (st := [_]) (pc' := 1764) (lo' := [some (.ref 0), some (.ref 1), some (.ref 53), some (.ref 69), some (.ref 70), some (.int (nI 0)), some (.int (nI 0)), some _, none]) (st' := [.ref 53]) 200 rfl ?_
  refine am_B.callV (rc := 2) (rs := 400) (ci := 5) (n := 0) (as := []) rfl rfl rfl (mc_thrown _ 0 vs p3 p4) rfl rfl (by exact Nat.le_of_ble_eq_true rfl) rfl p3 rfl rfl (fun v h3 z => ?_)
  obtain ⟨rfl, rfl⟩ := z
  refine am_B.run (hp := false) (sp := []) (pc := 1767) (lo := [some (.ref 0), some (.ref 1), some (.ref 53), some (.ref 69), some (.ref 70), some (.int (nI 0)), some (.int (nI 0)), some _, none]) (st := [.int (nI 0)]) (pc' := 1769) (lo' := [some (.ref 0), some (.ref 1), some (.ref 53), some (.ref 69), some (.ref 70), some (.int (nI 0)), some (.int (nI 0)), some _, none]) (st' := [.int (nI 0), .int (nI 0)]) 200 rfl ?_
  refine am_B.icmp_eq rfl rfl (fun _ => ?_) (fun z => absurd rfl z)
  refine am_B.run (hp := false) (sp := []) (pc := 1774) (lo := [some (.ref 0), some (.ref 1), some (.ref 53), some (.ref 69), some (.ref 70), some (.int (nI 0)), some (.int (nI 0)), some _, none]) (st := []) (pc' := 1776) (lo' := [some (.ref 0), some (.ref 1), some (.ref 53), some (.ref 69), some (.ref 70), some (.int (nI 0)), some (.int (nI 0)), some _, none]) (st' := [.int (nI 0)]) 200 rfl ?_
  refine am_B.if_ne rfl rfl (fun z => absurd rfl z) (fun _ => ?_)
  refine am_B.run (hp := false) (sp := []) (pc := 1779) (lo := [some (.ref 0), some (.ref 1), some (.ref 53), some (.ref 69), some (.ref 70), some (.int (nI 0)), some (.int (nI 0)), some _, none]) (st := []) (pc' := 1782) (lo' := [some (.ref 0), some (.ref 1), some (.ref 53), some (.ref 69), some (.ref 70), some (.int (nI 0)), some (.int (nI 0)), some _, none]) (st' := [.int (nI 0), .ref 70]) 200 rfl ?_
  refine am_B.ald rfl ((p2 70 (by decide)).trans hg) (vp_n (show 0 < 1 by decide) rfl) rfl ?_
  rw [nI_clamp (show 0 < 2 ^ 31 by decide), hg0]
  refine am_B.run (hp := false) (sp := []) 200 rfl ?_
  refine am_B.if_eq rfl rfl (fun _ => ?_) (fun z => absurd (by first | decide | rfl | decide +kernel) z)
  refine am_B.run (hp := false) (sp := [1893]) 200 rfl ?_
  exact lw_up (lc_end nm xs _ h02 _ _ _ _ _)
set_option maxRecDepth 100000 in
set_option maxHeartbeats 4000000 in
theorem lc_precision (nm : String) (xs : Nat → Int32) (h : am_H) (X : xF h) (M : mF h) (h0 : h[0]? = some (.inl (99, 5, .inl xs))) (h69 : h[69]? = some (la fun _ => 0)) (h70 : h[70]? = some (da fun _ => 0)) : lB nm 1814 [some (.ref 0), some (.ref 1), some (.ref 53), some (.ref 69), some (.ref 70), some (.int (nI 0)), none, none, none] [] h 3 406 := by
  refine lw_sub (rows := r_LW_law_26 ++ (r_LW_law_27)) (am_all_app ok_LW_law_26 (ok_LW_law_27)) ?_
  refine am_B.run (hp := false) (sp := [1815]) (pc := 1814) (lo := [some (.ref 0), some (.ref 1), some (.ref 53), some (.ref 69), some (.ref 70), some (.int (nI 0)), none, none, none]) (st := []) (pc' := 1815) (lo' := [some (.ref 0), some (.ref 1), some (.ref 53), some (.ref 69), some (.ref 70), some (.int (nI 0)), none, none, none]) (st' := [.ref 1]) 200 rfl ?_
  refine am_B.run (hp := false) (sp := []) (pc := 1815) (lo := [some (.ref 0), some (.ref 1), some (.ref 53), some (.ref 69), some (.ref 70), some (.int (nI 0)), none, none, none]) (st := [.ref 1]) (pc' := 1817) (lo' := [some (.ref 0), some (.ref 1), some (.ref 53), some (.ref 69), some (.ref 70), some (.int (nI 0)), none, none, none]) (st' := [.ref 70, .ref 1]) 200 rfl ?_
  refine am_B.callSW (rc := 2) (rs := 400) (M := m_LW_precision) (n := 2) (as := [.ref 1, .ref 70]) rfl rfl kw1_precision kw2_precision kw3_precision kw5_LW kw4_precision (ls_precision h X (fun _ => 0) h70) rfl rfl (by exact Nat.le_of_ble_eq_true rfl) rfl rfl rfl (fun v h' z => ?_)
  obtain ⟨rfl, o1, g, hg, hg0⟩ := z
  have M1 : mF h' := M.of o1
  have h01 := (o1.2 0 (by have := M.1; omega) (Or.inl rfl)).trans h0
  refine am_B.run (hp := false) (sp := [1822]) (pc := 1820) (lo := [some (.ref 0), some (.ref 1), some (.ref 53), some (.ref 69), some (.ref 70), some (.int (nI 0)), none, none, none]) (st := [.int (nI 0)]) (pc' := 1822) (lo' := [some (.ref 0), some (.ref 1), some (.ref 53), some (.ref 69), some (.ref 70), some (.int (nI 0)), some (.int (nI 0)), none, none]) (st' := []) 200 rfl ?_
  refine am_B.run (hp := false) (sp := [1823]) (pc := 1822) (lo := [some (.ref 0), some (.ref 1), some (.ref 53), some (.ref 69), some (.ref 70), some (.int (nI 0)), some (.int (nI 0)), none, none]) (st := []) (pc' := 1823) (lo' := [some (.ref 0), some (.ref 1), some (.ref 53), some (.ref 69), some (.ref 70), some (.int (nI 0)), some (.int (nI 0)), none, none]) (st' := [.ref 53]) 200 rfl ?_
  refine am_B.callV (rc := 0) (rs := 0) (ci := 5) (n := 0) (as := []) rfl rfl rfl (mc_precision _ M1) rfl rfl (by exact Nat.le_of_ble_eq_true rfl) rfl M1.2.1 rfl rfl (fun v h2 z => ?_)
  obtain ⟨rfl, p1, p2, vs, p3, p4⟩ := z
  have h02 := (p2 0 (Or.inl rfl)).trans h01
  refine am_B.run (hp := false) (sp := []) (pc := 1826) (lo := [some (.ref 0), some (.ref 1), some (.ref 53), some (.ref 69), some (.ref 70), some (.int (nI 0)), some (.int (nI 0)), none, none]) (st := [_]) (pc' := 1829) (lo' := [some (.ref 0), some (.ref 1), some (.ref 53), some (.ref 69), some (.ref 70), some (.int (nI 0)), some (.int (nI 0)), some _, none]) (st' := [.ref 53]) 200 rfl ?_
  refine am_B.callV (rc := 0) (rs := 0) (ci := 5) (n := 0) (as := []) rfl rfl rfl (mc_thrown _ 0 vs p3 p4) rfl rfl (by exact Nat.le_of_ble_eq_true rfl) rfl p3 rfl rfl (fun v h3 z => ?_)
  obtain ⟨rfl, rfl⟩ := z
  refine am_B.run (hp := false) (sp := []) (pc := 1832) (lo := [some (.ref 0), some (.ref 1), some (.ref 53), some (.ref 69), some (.ref 70), some (.int (nI 0)), some (.int (nI 0)), some _, none]) (st := [.int (nI 0)]) (pc' := 1834) (lo' := [some (.ref 0), some (.ref 1), some (.ref 53), some (.ref 69), some (.ref 70), some (.int (nI 0)), some (.int (nI 0)), some _, none]) (st' := [.int (nI 0), .int (nI 0)]) 200 rfl ?_
  refine am_B.icmp_eq rfl rfl (fun _ => ?_) (fun z => absurd rfl z)
  refine am_B.run (hp := false) (sp := []) (pc := 1839) (lo := [some (.ref 0), some (.ref 1), some (.ref 53), some (.ref 69), some (.ref 70), some (.int (nI 0)), some (.int (nI 0)), some _, none]) (st := []) (pc' := 1841) (lo' := [some (.ref 0), some (.ref 1), some (.ref 53), some (.ref 69), some (.ref 70), some (.int (nI 0)), some (.int (nI 0)), some _, none]) (st' := [.int (nI 0)]) 200 rfl ?_
  refine am_B.if_ne rfl rfl (fun z => absurd rfl z) (fun _ => ?_)
  refine am_B.run (hp := false) (sp := []) (pc := 1844) (lo := [some (.ref 0), some (.ref 1), some (.ref 53), some (.ref 69), some (.ref 70), some (.int (nI 0)), some (.int (nI 0)), some _, none]) (st := []) (pc' := 1847) (lo' := [some (.ref 0), some (.ref 1), some (.ref 53), some (.ref 69), some (.ref 70), some (.int (nI 0)), some (.int (nI 0)), some _, none]) (st' := [.int (nI 0), .ref 70]) 200 rfl ?_
  refine am_B.ald rfl ((p2 70 (by decide)).trans hg) (vp_n (show 0 < 1 by decide) rfl) rfl ?_
  rw [nI_clamp (show 0 < 2 ^ 31 by decide), hg0]
  refine am_B.run (hp := false) (sp := []) 200 rfl ?_
  refine am_B.if_eq rfl rfl (fun _ => ?_) (fun z => absurd (by first | decide | rfl | decide +kernel) z)
  refine am_B.run (hp := false) (sp := [1893]) 200 rfl ?_
  exact lw_up (lc_end nm xs _ h02 _ _ _ _ _)
set_option maxRecDepth 100000 in
set_option maxHeartbeats 4000000 in
theorem lc_markings (nm : String) (xs : Nat → Int32) (h : am_H) (X : xF h) (M : mF h) (h0 : h[0]? = some (.inl (99, 5, .inl xs))) : lB nm 615 [some (.ref 0), some (.ref 1), some (.ref 53), some (.ref 69), some (.ref 70), some (.int (nI 0)), none, none, none] [] h 3 406 := by
  have M1 : mF (hE h) := M.of (oL.xk (xk_hE h))
  have h01 : (hE h)[0]? = some (.inl (99, 5, .inl xs)) := ((xk_hE h).2 0 (Or.inl rfl)).trans h0
  refine lw_sub (rows := r_LW_law_7) (ok_LW_law_7) ?_
  refine am_B.run (hp := false) (sp := []) 200 rfl ?_
  refine am_B.callV (rc := 3) (rs := 406) (ci := 0) (n := 0) (as := []) rfl rfl rfl (xx_markings h X) rfl rfl (by exact Nat.le_of_ble_eq_true rfl) rfl X.2.1 rfl rfl (fun v h' z => ?_)
  obtain ⟨rfl, rfl⟩ := z
  refine am_B.run (hp := false) (sp := []) 200 rfl ?_
  refine am_B.callV (rc := 3) (rs := 406) (ci := 5) (n := 0) (as := []) rfl rfl rfl (mc_markings _ M1) rfl rfl (by exact Nat.le_of_ble_eq_true rfl) rfl M1.2.1 rfl rfl (fun v h2 z => ?_)
  obtain ⟨rfl, p1, p2, vs, p3, p4⟩ := z
  refine am_B.icmp_eq rfl rfl (fun _ => ?_) (fun z => absurd rfl z)
  exact lw_up (lc_end nm xs _ ((p2 0 (Or.inl rfl)).trans h01) _ _ _ _ _)
set_option maxRecDepth 100000 in
set_option maxHeartbeats 4000000 in
theorem lc_digest (nm : String) (xs : Nat → Int32) (h : am_H) (X : xF h) (M : mF h) (h0 : h[0]? = some (.inl (99, 5, .inl xs))) : lB nm 1879 [some (.ref 0), some (.ref 1), some (.ref 53), some (.ref 69), some (.ref 70), some (.int (nI 0)), none, none, none] [] h 3 406 := by
  have M1 : mF (hE h) := M.of (oL.xk (xk_hE h))
  have h01 : (hE h)[0]? = some (.inl (99, 5, .inl xs)) := ((xk_hE h).2 0 (Or.inl rfl)).trans h0
  refine lw_sub (rows := r_LW_law_27) (ok_LW_law_27) ?_
  refine am_B.run (hp := false) (sp := []) 200 rfl ?_
  refine am_B.callV (rc := 3) (rs := 406) (ci := 0) (n := 0) (as := []) rfl rfl rfl (xx_digest h X) rfl rfl (by exact Nat.le_of_ble_eq_true rfl) rfl X.2.1 rfl rfl (fun v h' z => ?_)
  obtain ⟨rfl, rfl⟩ := z
  refine am_B.run (hp := false) (sp := []) 200 rfl ?_
  refine am_B.callV (rc := 3) (rs := 406) (ci := 5) (n := 0) (as := []) rfl rfl rfl (mc_digest _ M1) rfl rfl (by exact Nat.le_of_ble_eq_true rfl) rfl M1.2.1 rfl rfl (fun v h2 z => ?_)
  obtain ⟨rfl, p1, p2, vs, p3, p4⟩ := z
  refine am_B.run (hp := false) (sp := []) 200 rfl ?_
  refine am_B.if_eq rfl rfl (fun _ => ?_) (fun z => absurd (by first | decide | rfl | decide +kernel) z)
  exact lw_up (lc_end nm xs _ ((p2 0 (Or.inl rfl)).trans h01) _ _ _ _ _)
