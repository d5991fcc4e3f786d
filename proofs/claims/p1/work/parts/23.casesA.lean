set_option maxRecDepth 100000 in
set_option maxHeartbeats 4000000 in
theorem lc_addPlace (nm : String) (xs : Nat → Int32) (h : am_H) (X : xF h) (M : mF h) (h0 : h[0]? = some (.inl (99, 5, .inl xs))) (h69 : h[69]? = some (la fun _ => 0)) (h70 : h[70]? = some (da fun _ => 0)) : lB nm 176 [some (.ref 0), some (.ref 1), some (.ref 53), some (.ref 69), some (.ref 70), some (.int (nI 0)), none, none, none] [] h 3 406 := by
  refine lw_sub (rows := r_LW_law_0 ++ (r_LW_law_1)) (am_all_app ok_LW_law_0 (ok_LW_law_1)) ?_
  refine am_B.run (hp := false) (sp := [177]) (pc := 176) (lo := [some (.ref 0), some (.ref 1), some (.ref 53), some (.ref 69), some (.ref 70), some (.int (nI 0)), none, none, none]) (st := []) (pc' := 177) (lo' := [some (.ref 0), some (.ref 1), some (.ref 53), some (.ref 69), some (.ref 70), some (.int (nI 0)), none, none, none]) (st' := [.ref 1]) 200 rfl ?_
  refine am_B.run (hp := false) (sp := []) (pc := 177) (lo := [some (.ref 0), some (.ref 1), some (.ref 53), some (.ref 69), some (.ref 70), some (.int (nI 0)), none, none, none]) (st := [.ref 1]) (pc' := 178) (lo' := [some (.ref 0), some (.ref 1), some (.ref 53), some (.ref 69), some (.ref 70), some (.int (nI 0)), none, none, none]) (st' := [.ref 69, .ref 1]) 200 rfl ?_
  refine am_B.callSW (rc := 2) (rs := 400) (M := m_LW_addPlace) (n := 2) (as := [.ref 1, .ref 69]) rfl rfl kw1_addPlace kw2_addPlace kw3_addPlace kw5_LW kw4_addPlace (ls_addPlace h X (fun _ => 0) h69) rfl rfl (by exact Nat.le_of_ble_eq_true rfl) rfl rfl rfl (fun v h' z => ?_)
  obtain ⟨rfl, o1, g, hg, hg0⟩ := z
  have M1 : mF h' := M.of o1
  have h01 := (o1.2 0 (by have := M.1; omega) (Or.inl rfl)).trans h0
  refine am_B.run (hp := false) (sp := [183]) (pc := 181) (lo := [some (.ref 0), some (.ref 1), some (.ref 53), some (.ref 69), some (.ref 70), some (.int (nI 0)), none, none, none]) (st := [.int (nI 0)]) (pc' := 183) (lo' := [some (.ref 0), some (.ref 1), some (.ref 53), some (.ref 69), some (.ref 70), some (.int (nI 0)), some (.int (nI 0)), none, none]) (st' := []) 200 rfl ?_
  refine am_B.run (hp := false) (sp := [184]) (pc := 183) (lo := [some (.ref 0), some (.ref 1), some (.ref 53), some (.ref 69), some (.ref 70), some (.int (nI 0)), some (.int (nI 0)), none, none]) (st := []) (pc' := 184) (lo' := [some (.ref 0), some (.ref 1), some (.ref 53), some (.ref 69), some (.ref 70), some (.int (nI 0)), some (.int (nI 0)), none, none]) (st' := [.ref 53]) 200 rfl ?_
  refine am_B.callV (rc := 2) (rs := 400) (ci := 5) (n := 0) (as := []) rfl rfl rfl (mc_addPlace _ M1) rfl rfl (by exact Nat.le_of_ble_eq_true rfl) rfl M1.2.1 rfl rfl (fun v h2 z => ?_)
  obtain ⟨rfl, p1, p2, vs, p3, p4⟩ := z
  have h02 := (p2 0 (Or.inl rfl)).trans h01
  refine am_B.run (hp := false) (sp := []) (pc := 187) (lo := [some (.ref 0), some (.ref 1), some (.ref 53), some (.ref 69), some (.ref 70), some (.int (nI 0)), some (.int (nI 0)), none, none]) (st := [_]) (pc' := 190) (lo' := [some (.ref 0), some (.ref 1), some (.ref 53), some (.ref 69), some (.ref 70), some (.int (nI 0)), some (.int (nI 0)), some _, none]) (st' := [.ref 53]) 200 rfl ?_
  refine am_B.callV (rc := 2) (rs := 400) (ci := 5) (n := 0) (as := []) rfl rfl rfl (mc_thrown _ 0 vs p3 p4) rfl rfl (by exact Nat.le_of_ble_eq_true rfl) rfl p3 rfl rfl (fun v h3 z => ?_)
  obtain ⟨rfl, rfl⟩ := z
  refine am_B.run (hp := false) (sp := []) (pc := 193) (lo := [some (.ref 0), some (.ref 1), some (.ref 53), some (.ref 69), some (.ref 70), some (.int (nI 0)), some (.int (nI 0)), some _, none]) (st := [.int (nI 0)]) (pc' := 195) (lo' := [some (.ref 0), some (.ref 1), some (.ref 53), some (.ref 69), some (.ref 70), some (.int (nI 0)), some (.int (nI 0)), some _, none]) (st' := [.int (nI 0), .int (nI 0)]) 200 rfl ?_
  refine am_B.icmp_eq rfl rfl (fun _ => ?_) (fun z => absurd rfl z)
  refine am_B.run (hp := false) (sp := []) (pc := 200) (lo := [some (.ref 0), some (.ref 1), some (.ref 53), some (.ref 69), some (.ref 70), some (.int (nI 0)), some (.int (nI 0)), some _, none]) (st := []) (pc' := 202) (lo' := [some (.ref 0), some (.ref 1), some (.ref 53), some (.ref 69), some (.ref 70), some (.int (nI 0)), some (.int (nI 0)), some _, none]) (st' := [.int (nI 0)]) 200 rfl ?_
  refine am_B.if_ne rfl rfl (fun z => absurd rfl z) (fun _ => ?_)
  refine am_B.run (hp := false) (sp := []) (pc := 205) (lo := [some (.ref 0), some (.ref 1), some (.ref 53), some (.ref 69), some (.ref 70), some (.int (nI 0)), some (.int (nI 0)), some _, none]) (st := []) (pc' := 207) (lo' := [some (.ref 0), some (.ref 1), some (.ref 53), some (.ref 69), some (.ref 70), some (.int (nI 0)), some (.int (nI 0)), some _, none]) (st' := [.int (nI 0), .ref 69]) 200 rfl ?_
  refine am_B.ald rfl ((p2 69 (by decide)).trans hg) (vp_n (show 0 < 1 by decide) rfl) rfl ?_
  rw [nI_clamp (show 0 < 2 ^ 31 by decide), hg0]
  refine am_B.run (hp := false) (sp := []) 200 rfl ?_
  refine am_B.if_eq rfl rfl (fun _ => ?_) (fun z => absurd (by first | decide | rfl | decide +kernel) z)
  refine am_B.run (hp := false) (sp := [1893]) 200 rfl ?_
  exact lw_up (lc_end nm xs _ h02 _ _ _ _ _)
set_option maxRecDepth 100000 in
set_option maxHeartbeats 4000000 in
theorem lc_addTransitionN (nm : String) (xs : Nat → Int32) (h : am_H) (X : xF h) (M : mF h) (h0 : h[0]? = some (.inl (99, 5, .inl xs))) (h69 : h[69]? = some (la fun _ => 0)) (h70 : h[70]? = some (da fun _ => 0)) (e1 : xs 1 = (-1)) : lB nm 220 [some (.ref 0), some (.ref 1), some (.ref 53), some (.ref 69), some (.ref 70), some (.int (nI 0)), none, none, none] [] h 3 406 := by
  refine lw_sub (rows := r_LW_law_1 ++ (r_LW_law_2)) (am_all_app ok_LW_law_1 (ok_LW_law_2)) ?_
  refine am_B.run (hp := false) (sp := [221]) (pc := 220) (lo := [some (.ref 0), some (.ref 1), some (.ref 53), some (.ref 69), some (.ref 70), some (.int (nI 0)), none, none, none]) (st := []) (pc' := 221) (lo' := [some (.ref 0), some (.ref 1), some (.ref 53), some (.ref 69), some (.ref 70), some (.int (nI 0)), none, none, none]) (st' := [.ref 1]) 200 rfl ?_
  refine lw_ld 221 227 (j := 1) (v := (-1)) rfl rfl rfl (fun _ _ => rfl) rfl rfl (by decide) h0 e1 ?_
  refine am_B.run (hp := false) (sp := []) (pc := 227) (lo := [some (.ref 0), some (.ref 1), some (.ref 53), some (.ref 69), some (.ref 70), some (.int (nI 0)), none, none, none]) (st := [.int ((-1)), .ref 1]) (pc' := 228) (lo' := [some (.ref 0), some (.ref 1), some (.ref 53), some (.ref 69), some (.ref 70), some (.int (nI 0)), none, none, none]) (st' := [.ref 69, .int ((-1)), .ref 1]) 200 rfl ?_
  refine am_B.callSW (rc := 2) (rs := 400) (M := m_LW_addTransition) (n := 3) (as := [.ref 1, .int (-1), .ref 69]) rfl rfl kw1_addTransition kw2_addTransition kw3_addTransition kw5_LW kw4_addTransition (ls_addTransition h X (-1) (Or.inl rfl) (fun _ => 0) h69) rfl rfl (by exact Nat.le_of_ble_eq_true rfl) rfl rfl rfl (fun v h' z => ?_)
  obtain ⟨rfl, o1, g, hg, hg0⟩ := z
  have M1 : mF h' := M.of o1
  have h01 := (o1.2 0 (by have := M.1; omega) (Or.inl rfl)).trans h0
  refine am_B.run (hp := false) (sp := [233]) (pc := 231) (lo := [some (.ref 0), some (.ref 1), some (.ref 53), some (.ref 69), some (.ref 70), some (.int (nI 0)), none, none, none]) (st := [.int (nI 0)]) (pc' := 233) (lo' := [some (.ref 0), some (.ref 1), some (.ref 53), some (.ref 69), some (.ref 70), some (.int (nI 0)), some (.int (nI 0)), none, none]) (st' := []) 200 rfl ?_
  refine am_B.run (hp := false) (sp := [234]) (pc := 233) (lo := [some (.ref 0), some (.ref 1), some (.ref 53), some (.ref 69), some (.ref 70), some (.int (nI 0)), some (.int (nI 0)), none, none]) (st := []) (pc' := 234) (lo' := [some (.ref 0), some (.ref 1), some (.ref 53), some (.ref 69), some (.ref 70), some (.int (nI 0)), some (.int (nI 0)), none, none]) (st' := [.ref 53]) 200 rfl ?_
  refine lw_ld 234 240 (j := 1) (v := (-1)) rfl rfl rfl (fun _ _ => rfl) rfl rfl (by decide) h01 e1 ?_
  refine am_B.callV (rc := 2) (rs := 400) (ci := 5) (n := 1) (as := [.int (-1)]) rfl rfl rfl (mc_addTransitionN _ M1) rfl rfl (by exact Nat.le_of_ble_eq_true rfl) rfl M1.2.1 rfl rfl (fun v h2 z => ?_)
  obtain ⟨rfl, p1, p2, vs, p3, p4⟩ := z
  have h02 := (p2 0 (Or.inl rfl)).trans h01
  refine am_B.run (hp := false) (sp := []) (pc := 243) (lo := [some (.ref 0), some (.ref 1), some (.ref 53), some (.ref 69), some (.ref 70), some (.int (nI 0)), some (.int (nI 0)), none, none]) (st := [_]) (pc' := 246) (lo' := [some (.ref 0), some (.ref 1), some (.ref 53), some (.ref 69), some (.ref 70), some (.int (nI 0)), some (.int (nI 0)), some _, none]) (st' := [.ref 53]) 200 rfl ?_
  refine am_B.callV (rc := 2) (rs := 400) (ci := 5) (n := 0) (as := []) rfl rfl rfl (mc_thrown _ 0 vs p3 p4) rfl rfl (by exact Nat.le_of_ble_eq_true rfl) rfl p3 rfl rfl (fun v h3 z => ?_)
  obtain ⟨rfl, rfl⟩ := z
  refine am_B.run (hp := false) (sp := []) (pc := 249) (lo := [some (.ref 0), some (.ref 1), some (.ref 53), some (.ref 69), some (.ref 70), some (.int (nI 0)), some (.int (nI 0)), some _, none]) (st := [.int (nI 0)]) (pc' := 251) (lo' := [some (.ref 0), some (.ref 1), some (.ref 53), some (.ref 69), some (.ref 70), some (.int (nI 0)), some (.int (nI 0)), some _, none]) (st' := [.int (nI 0), .int (nI 0)]) 200 rfl ?_
  refine am_B.icmp_eq rfl rfl (fun _ => ?_) (fun z => absurd rfl z)
  refine am_B.run (hp := false) (sp := []) (pc := 256) (lo := [some (.ref 0), some (.ref 1), some (.ref 53), some (.ref 69), some (.ref 70), some (.int (nI 0)), some (.int (nI 0)), some _, none]) (st := []) (pc' := 258) (lo' := [some (.ref 0), some (.ref 1), some (.ref 53), some (.ref 69), some (.ref 70), some (.int (nI 0)), some (.int (nI 0)), some _, none]) (st' := [.int (nI 0)]) 200 rfl ?_
  refine am_B.if_ne rfl rfl (fun z => absurd rfl z) (fun _ => ?_)
  refine am_B.run (hp := false) (sp := []) (pc := 261) (lo := [some (.ref 0), some (.ref 1), some (.ref 53), some (.ref 69), some (.ref 70), some (.int (nI 0)), some (.int (nI 0)), some _, none]) (st := []) (pc' := 263) (lo' := [some (.ref 0), some (.ref 1), some (.ref 53), some (.ref 69), some (.ref 70), some (.int (nI 0)), some (.int (nI 0)), some _, none]) (st' := [.int (nI 0), .ref 69]) 200 rfl ?_
  refine am_B.ald rfl ((p2 69 (by decide)).trans hg) (vp_n (show 0 < 1 by decide) rfl) rfl ?_
  rw [nI_clamp (show 0 < 2 ^ 31 by decide), hg0]
  refine am_B.run (hp := false) (sp := []) 200 rfl ?_
  refine am_B.if_eq rfl rfl (fun _ => ?_) (fun z => absurd (by first | decide | rfl | decide +kernel) z)
  refine am_B.run (hp := false) (sp := [1893]) 200 rfl ?_
  exact lw_up (lc_end nm xs _ h02 _ _ _ _ _)
set_option maxRecDepth 100000 in
set_option maxHeartbeats 4000000 in
theorem lc_addTransitionL (nm : String) (xs : Nat → Int32) (h : am_H) (X : xF h) (M : mF h) (h0 : h[0]? = some (.inl (99, 5, .inl xs))) (h69 : h[69]? = some (la fun _ => 0)) (h70 : h[70]? = some (da fun _ => 0)) (l : Nat) (hl : l < 6) (e1 : xs 1 = (nI l)) : lB nm 220 [some (.ref 0), some (.ref 1), some (.ref 53), some (.ref 69), some (.ref 70), some (.int (nI 0)), none, none, none] [] h 3 406 := by
  refine lw_sub (rows := r_LW_law_1 ++ (r_LW_law_2)) (am_all_app ok_LW_law_1 (ok_LW_law_2)) ?_
  refine am_B.run (hp := false) (sp := [221]) (pc := 220) (lo := [some (.ref 0), some (.ref 1), some (.ref 53), some (.ref 69), some (.ref 70), some (.int (nI 0)), none, none, none]) (st := []) (pc' := 221) (lo' := [some (.ref 0), some (.ref 1), some (.ref 53), some (.ref 69), some (.ref 70), some (.int (nI 0)), none, none, none]) (st' := [.ref 1]) 200 rfl ?_
  refine lw_ld 221 227 (j := 1) (v := (nI l)) rfl rfl rfl (fun _ _ => rfl) rfl rfl (by decide) h0 e1 ?_
  refine am_B.run (hp := false) (sp := []) (pc := 227) (lo := [some (.ref 0), some (.ref 1), some (.ref 53), some (.ref 69), some (.ref 70), some (.int (nI 0)), none, none, none]) (st := [.int ((nI l)), .ref 1]) (pc' := 228) (lo' := [some (.ref 0), some (.ref 1), some (.ref 53), some (.ref 69), some (.ref 70), some (.int (nI 0)), none, none, none]) (st' := [.ref 69, .int ((nI l)), .ref 1]) 200 rfl ?_
  refine am_B.callSW (rc := 2) (rs := 400) (M := m_LW_addTransition) (n := 3) (as := [.ref 1, .int (nI l), .ref 69]) rfl rfl kw1_addTransition kw2_addTransition kw3_addTransition kw5_LW kw4_addTransition (ls_addTransition h X (nI l) (Or.inr ⟨l, hl, rfl⟩) (fun _ => 0) h69) rfl rfl (by exact Nat.le_of_ble_eq_true rfl) rfl rfl rfl (fun v h' z => ?_)
  obtain ⟨rfl, o1, g, hg, hg0⟩ := z
  have M1 : mF h' := M.of o1
  have h01 := (o1.2 0 (by have := M.1; omega) (Or.inl rfl)).trans h0
  refine am_B.run (hp := false) (sp := [233]) (pc := 231) (lo := [some (.ref 0), some (.ref 1), some (.ref 53), some (.ref 69), some (.ref 70), some (.int (nI 0)), none, none, none]) (st := [.int (nI 0)]) (pc' := 233) (lo' := [some (.ref 0), some (.ref 1), some (.ref 53), some (.ref 69), some (.ref 70), some (.int (nI 0)), some (.int (nI 0)), none, none]) (st' := []) 200 rfl ?_
  refine am_B.run (hp := false) (sp := [234]) (pc := 233) (lo := [some (.ref 0), some (.ref 1), some (.ref 53), some (.ref 69), some (.ref 70), some (.int (nI 0)), some (.int (nI 0)), none, none]) (st := []) (pc' := 234) (lo' := [some (.ref 0), some (.ref 1), some (.ref 53), some (.ref 69), some (.ref 70), some (.int (nI 0)), some (.int (nI 0)), none, none]) (st' := [.ref 53]) 200 rfl ?_
  refine lw_ld 234 240 (j := 1) (v := (nI l)) rfl rfl rfl (fun _ _ => rfl) rfl rfl (by decide) h01 e1 ?_
  refine am_B.callV (rc := 2) (rs := 400) (ci := 5) (n := 1) (as := [.int (nI l)]) rfl rfl rfl (mc_addTransitionL _ M1 l hl) rfl rfl (by exact Nat.le_of_ble_eq_true rfl) rfl M1.2.1 rfl rfl (fun v h2 z => ?_)
  obtain ⟨rfl, p1, p2, vs, p3, p4⟩ := z
  have h02 := (p2 0 (Or.inl rfl)).trans h01
  refine am_B.run (hp := false) (sp := []) (pc := 243) (lo := [some (.ref 0), some (.ref 1), some (.ref 53), some (.ref 69), some (.ref 70), some (.int (nI 0)), some (.int (nI 0)), none, none]) (st := [_]) (pc' := 246) (lo' := [some (.ref 0), some (.ref 1), some (.ref 53), some (.ref 69), some (.ref 70), some (.int (nI 0)), some (.int (nI 0)), some _, none]) (st' := [.ref 53]) 200 rfl ?_
  refine am_B.callV (rc := 2) (rs := 400) (ci := 5) (n := 0) (as := []) rfl rfl rfl (mc_thrown _ 0 vs p3 p4) rfl rfl (by exact Nat.le_of_ble_eq_true rfl) rfl p3 rfl rfl (fun v h3 z => ?_)
  obtain ⟨rfl, rfl⟩ := z
  refine am_B.run (hp := false) (sp := []) (pc := 249) (lo := [some (.ref 0), some (.ref 1), some (.ref 53), some (.ref 69), some (.ref 70), some (.int (nI 0)), some (.int (nI 0)), some _, none]) (st := [.int (nI 0)]) (pc' := 251) (lo' := [some (.ref 0), some (.ref 1), some (.ref 53), some (.ref 69), some (.ref 70), some (.int (nI 0)), some (.int (nI 0)), some _, none]) (st' := [.int (nI 0), .int (nI 0)]) 200 rfl ?_
  refine am_B.icmp_eq rfl rfl (fun _ => ?_) (fun z => absurd rfl z)
  refine am_B.run (hp := false) (sp := []) (pc := 256) (lo := [some (.ref 0), some (.ref 1), some (.ref 53), some (.ref 69), some (.ref 70), some (.int (nI 0)), some (.int (nI 0)), some _, none]) (st := []) (pc' := 258) (lo' := [some (.ref 0), some (.ref 1), some (.ref 53), some (.ref 69), some (.ref 70), some (.int (nI 0)), some (.int (nI 0)), some _, none]) (st' := [.int (nI 0)]) 200 rfl ?_
  refine am_B.if_ne rfl rfl (fun z => absurd rfl z) (fun _ => ?_)
  refine am_B.run (hp := false) (sp := []) (pc := 261) (lo := [some (.ref 0), some (.ref 1), some (.ref 53), some (.ref 69), some (.ref 70), some (.int (nI 0)), some (.int (nI 0)), some _, none]) (st := []) (pc' := 263) (lo' := [some (.ref 0), some (.ref 1), some (.ref 53), some (.ref 69), some (.ref 70), some (.int (nI 0)), some (.int (nI 0)), some _, none]) (st' := [.int (nI 0), .ref 69]) 200 rfl ?_
  refine am_B.ald rfl ((p2 69 (by decide)).trans hg) (vp_n (show 0 < 1 by decide) rfl) rfl ?_
  rw [nI_clamp (show 0 < 2 ^ 31 by decide), hg0]
  refine am_B.run (hp := false) (sp := []) 200 rfl ?_
  refine am_B.if_eq rfl rfl (fun _ => ?_) (fun z => absurd (by first | decide | rfl | decide +kernel) z)
  refine am_B.run (hp := false) (sp := [1893]) 200 rfl ?_
  exact lw_up (lc_end nm xs _ h02 _ _ _ _ _)
set_option maxRecDepth 100000 in
set_option maxHeartbeats 4000000 in
theorem lc_addTransitionB (nm : String) (xs : Nat → Int32) (h : am_H) (X : xF h) (M : mF h) (h0 : h[0]? = some (.inl (99, 5, .inl xs))) (h69 : h[69]? = some (la fun _ => 0)) (h70 : h[70]? = some (da fun _ => 0)) (hx : xbad (xs 1) 6) (hm : ¬ xs 1 = -1) : lB nm 220 [some (.ref 0), some (.ref 1), some (.ref 53), some (.ref 69), some (.ref 70), some (.int (nI 0)), none, none, none] [] h 3 406 := by
  refine lw_sub (rows := r_LW_law_1 ++ (r_LW_law_2)) (am_all_app ok_LW_law_1 (ok_LW_law_2)) ?_
  refine am_B.run (hp := false) (sp := [221]) (pc := 220) (lo := [some (.ref 0), some (.ref 1), some (.ref 53), some (.ref 69), some (.ref 70), some (.int (nI 0)), none, none, none]) (st := []) (pc' := 221) (lo' := [some (.ref 0), some (.ref 1), some (.ref 53), some (.ref 69), some (.ref 70), some (.int (nI 0)), none, none, none]) (st' := [.ref 1]) 200 rfl ?_
  refine lw_ld 221 227 (j := 1) (v := xs 1) rfl rfl rfl (fun _ _ => rfl) rfl rfl (by decide) h0 rfl ?_
  refine am_B.run (hp := false) (sp := []) (pc := 227) (lo := [some (.ref 0), some (.ref 1), some (.ref 53), some (.ref 69), some (.ref 70), some (.int (nI 0)), none, none, none]) (st := [.int (xs 1), .ref 1]) (pc' := 228) (lo' := [some (.ref 0), some (.ref 1), some (.ref 53), some (.ref 69), some (.ref 70), some (.int (nI 0)), none, none, none]) (st' := [.ref 69, .int (xs 1), .ref 1]) 200 rfl ?_
  refine am_B.callSW (rc := 2) (rs := 400) (M := m_LW_addTransition) (n := 3) (as := [.ref 1, .int (xs 1), .ref 69]) rfl rfl kw1_addTransition kw2_addTransition kw3_addTransition kw5_LW kw4_addTransition (ls_addTransitionB h X (xs 1) hx hm) rfl rfl (by exact Nat.le_of_ble_eq_true rfl) rfl rfl rfl (fun v h' z => ?_)
  obtain ⟨rfl, o1⟩ := z
  have M1 : mF h' := M.of o1
  have h01 := (o1.2 0 (by have := M.1; omega) (Or.inl rfl)).trans h0
  refine am_B.run (hp := false) (sp := [233]) (pc := 231) (lo := [some (.ref 0), some (.ref 1), some (.ref 53), some (.ref 69), some (.ref 70), some (.int (nI 0)), none, none, none]) (st := [.int (nI 1)]) (pc' := 233) (lo' := [some (.ref 0), some (.ref 1), some (.ref 53), some (.ref 69), some (.ref 70), some (.int (nI 0)), some (.int (nI 1)), none, none]) (st' := []) 200 rfl ?_
  refine am_B.run (hp := false) (sp := [234]) (pc := 233) (lo := [some (.ref 0), some (.ref 1), some (.ref 53), some (.ref 69), some (.ref 70), some (.int (nI 0)), some (.int (nI 1)), none, none]) (st := []) (pc' := 234) (lo' := [some (.ref 0), some (.ref 1), some (.ref 53), some (.ref 69), some (.ref 70), some (.int (nI 0)), some (.int (nI 1)), none, none]) (st' := [.ref 53]) 200 rfl ?_
  refine lw_ld 234 240 (j := 1) (v := xs 1) rfl rfl rfl (fun _ _ => rfl) rfl rfl (by decide) h01 rfl ?_
  refine am_B.callV (rc := 2) (rs := 400) (ci := 5) (n := 1) (as := [.int (xs 1)]) rfl rfl rfl (mc_addTransitionB _ M1 (xs 1) hx hm) rfl rfl (by exact Nat.le_of_ble_eq_true rfl) rfl M1.2.1 rfl rfl (fun v h2 z => ?_)
  obtain ⟨rfl, p1, p2, vs, p3, p4⟩ := z
  have h02 := (p2 0 (Or.inl rfl)).trans h01
  refine am_B.run (hp := false) (sp := []) (pc := 243) (lo := [some (.ref 0), some (.ref 1), some (.ref 53), some (.ref 69), some (.ref 70), some (.int (nI 0)), some (.int (nI 1)), none, none]) (st := [_]) (pc' := 246) (lo' := [some (.ref 0), some (.ref 1), some (.ref 53), some (.ref 69), some (.ref 70), some (.int (nI 0)), some (.int (nI 1)), some _, none]) (st' := [.ref 53]) 200 rfl ?_
  refine am_B.callV (rc := 2) (rs := 400) (ci := 5) (n := 0) (as := []) rfl rfl rfl (mc_thrown _ 1 vs p3 p4) rfl rfl (by exact Nat.le_of_ble_eq_true rfl) rfl p3 rfl rfl (fun v h3 z => ?_)
  obtain ⟨rfl, rfl⟩ := z
  refine am_B.run (hp := false) (sp := []) (pc := 249) (lo := [some (.ref 0), some (.ref 1), some (.ref 53), some (.ref 69), some (.ref 70), some (.int (nI 0)), some (.int (nI 1)), some _, none]) (st := [.int (nI 1)]) (pc' := 251) (lo' := [some (.ref 0), some (.ref 1), some (.ref 53), some (.ref 69), some (.ref 70), some (.int (nI 0)), some (.int (nI 1)), some _, none]) (st' := [.int (nI 1), .int (nI 1)]) 200 rfl ?_
  refine am_B.icmp_eq rfl rfl (fun _ => ?_) (fun z => absurd rfl z)
  refine am_B.run (hp := false) (sp := []) (pc := 256) (lo := [some (.ref 0), some (.ref 1), some (.ref 53), some (.ref 69), some (.ref 70), some (.int (nI 0)), some (.int (nI 1)), some _, none]) (st := []) (pc' := 258) (lo' := [some (.ref 0), some (.ref 1), some (.ref 53), some (.ref 69), some (.ref 70), some (.int (nI 0)), some (.int (nI 1)), some _, none]) (st' := [.int (nI 1)]) 200 rfl ?_
  refine am_B.if_ne rfl rfl (fun _ => ?_) (fun z => absurd z (by decide))
  refine am_B.run (hp := false) (sp := [1893]) (pc := 273) (lo := [some (.ref 0), some (.ref 1), some (.ref 53), some (.ref 69), some (.ref 70), some (.int (nI 0)), some (.int (nI 1)), some _, none]) (st := []) (pc' := 1893) (lo' := [some (.ref 0), some (.ref 1), some (.ref 53), some (.ref 69), some (.ref 70), some (.int (nI 0)), some (.int (nI 1)), some _, none]) (st' := []) 200 rfl ?_
  exact lw_up (lc_end nm xs _ h02 _ _ _ _ _)
set_option maxRecDepth 100000 in
set_option maxHeartbeats 4000000 in
theorem lc_link00 (nm : String) (xs : Nat → Int32) (h : am_H) (X : xF h) (M : mF h) (h0 : h[0]? = some (.inl (99, 5, .inl xs))) (h69 : h[69]? = some (la fun _ => 0)) (h70 : h[70]? = some (da fun _ => 0)) (q3 : xs 3 = 0) (q4 : xs 4 = 0) : lB nm 276 [some (.ref 0), some (.ref 1), some (.ref 53), some (.ref 69), some (.ref 70), some (.int (nI 0)), none, none, none] [] h 3 406 := by
  refine lw_sub (rows := r_LW_law_2 ++ (r_LW_law_3 ++ (r_LW_law_4))) (am_all_app ok_LW_law_2 (am_all_app ok_LW_law_3 (ok_LW_law_4))) ?_
  refine am_B.run (hp := false) (sp := [277]) (pc := 276) (lo := [some (.ref 0), some (.ref 1), some (.ref 53), some (.ref 69), some (.ref 70), some (.int (nI 0)), none, none, none]) (st := []) (pc' := 277) (lo' := [some (.ref 0), some (.ref 1), some (.ref 53), some (.ref 69), some (.ref 70), some (.int (nI 0)), none, none, none]) (st' := [.ref 1]) 200 rfl ?_
  refine lw_ld 277 283 (j := 1) (v := xs 1) rfl rfl rfl (fun _ _ => rfl) rfl rfl (by decide) h0 rfl ?_
  refine lw_ld 283 289 (j := 2) (v := xs 2) rfl rfl rfl (fun _ _ => rfl) rfl rfl (by decide) h0 rfl ?_
  refine lw_ld 289 295 (j := 3) (v := xs 3) rfl rfl rfl (fun _ _ => rfl) rfl rfl (by decide) h0 rfl ?_
  refine am_B.if_eq rfl rfl (fun _ => ?_) (fun z => absurd q3 z)
  refine am_B.run (hp := false) (sp := [303]) (pc := 302) (lo := [some (.ref 0), some (.ref 1), some (.ref 53), some (.ref 69), some (.ref 70), some (.int (nI 0)), none, none, none]) (st := [.int (xs 2), .int (xs 1), .ref 1]) (pc' := 303) (lo' := [some (.ref 0), some (.ref 1), some (.ref 53), some (.ref 69), some (.ref 70), some (.int (nI 0)), none, none, none]) (st' := [.int (nI 0), .int (xs 2), .int (xs 1), .ref 1]) 200 rfl ?_
  refine lw_ld 303 309 (j := 4) (v := xs 4) rfl rfl rfl (fun _ _ => rfl) rfl rfl (by decide) h0 rfl ?_
  refine am_B.if_eq rfl rfl (fun _ => ?_) (fun z => absurd q4 z)
  refine am_B.run (hp := false) (sp := [317]) (pc := 316) (lo := [some (.ref 0), some (.ref 1), some (.ref 53), some (.ref 69), some (.ref 70), some (.int (nI 0)), none, none, none]) (st := [.int (nI 0), .int (xs 2), .int (xs 1), .ref 1]) (pc' := 317) (lo' := [some (.ref 0), some (.ref 1), some (.ref 53), some (.ref 69), some (.ref 70), some (.int (nI 0)), none, none, none]) (st' := [.int (nI 0), .int (nI 0), .int (xs 2), .int (xs 1), .ref 1]) 200 rfl ?_
  refine am_B.run (hp := false) (sp := []) (pc := 317) (lo := [some (.ref 0), some (.ref 1), some (.ref 53), some (.ref 69), some (.ref 70), some (.int (nI 0)), none, none, none]) (st := [.int (nI 0), .int (nI 0), .int (xs 2), .int (xs 1), .ref 1]) (pc' := 318) (lo' := [some (.ref 0), some (.ref 1), some (.ref 53), some (.ref 69), some (.ref 70), some (.int (nI 0)), none, none, none]) (st' := [.ref 69, .int (nI 0), .int (nI 0), .int (xs 2), .int (xs 1), .ref 1]) 200 rfl ?_
  refine am_B.callSW (rc := 2) (rs := 400) (M := m_LW_link) (n := 6) (as := [.ref 1, .int (xs 1), .int (xs 2), .int (nI 0), .int (nI 0), .ref 69]) rfl rfl kw1_link kw2_link kw3_link kw5_LW kw4_link (ls_link h X (xs 1) (xs 2) (nI 0) (nI 0)) rfl rfl (by exact Nat.le_of_ble_eq_true rfl) rfl rfl rfl (fun v h' z => ?_)
  obtain ⟨rfl, o1⟩ := z
  have M1 : mF h' := M.of o1
  have h01 := (o1.2 0 (by have := M.1; omega) (Or.inl rfl)).trans h0
  refine am_B.run (hp := false) (sp := [323]) (pc := 321) (lo := [some (.ref 0), some (.ref 1), some (.ref 53), some (.ref 69), some (.ref 70), some (.int (nI 0)), none, none, none]) (st := [.int (nI 1)]) (pc' := 323) (lo' := [some (.ref 0), some (.ref 1), some (.ref 53), some (.ref 69), some (.ref 70), some (.int (nI 0)), some (.int (nI 1)), none, none]) (st' := []) 200 rfl ?_
  refine am_B.run (hp := false) (sp := [324]) (pc := 323) (lo := [some (.ref 0), some (.ref 1), some (.ref 53), some (.ref 69), some (.ref 70), some (.int (nI 0)), some (.int (nI 1)), none, none]) (st := []) (pc' := 324) (lo' := [some (.ref 0), some (.ref 1), some (.ref 53), some (.ref 69), some (.ref 70), some (.int (nI 0)), some (.int (nI 1)), none, none]) (st' := [.ref 53]) 200 rfl ?_
  refine lw_ld 324 330 (j := 1) (v := xs 1) rfl rfl rfl (fun _ _ => rfl) rfl rfl (by decide) h01 rfl ?_
  refine lw_ld 330 336 (j := 2) (v := xs 2) rfl rfl rfl (fun _ _ => rfl) rfl rfl (by decide) h01 rfl ?_
  refine lw_ld 336 342 (j := 3) (v := xs 3) rfl rfl rfl (fun _ _ => rfl) rfl rfl (by decide) h01 rfl ?_
  refine am_B.if_eq rfl rfl (fun _ => ?_) (fun z => absurd q3 z)
  refine am_B.run (hp := false) (sp := [350]) (pc := 349) (lo := [some (.ref 0), some (.ref 1), some (.ref 53), some (.ref 69), some (.ref 70), some (.int (nI 0)), some (.int (nI 1)), none, none]) (st := [.int (xs 2), .int (xs 1), .ref 53]) (pc' := 350) (lo' := [some (.ref 0), some (.ref 1), some (.ref 53), some (.ref 69), some (.ref 70), some (.int (nI 0)), some (.int (nI 1)), none, none]) (st' := [.int (nI 0), .int (xs 2), .int (xs 1), .ref 53]) 200 rfl ?_
  refine lw_ld 350 356 (j := 4) (v := xs 4) rfl rfl rfl (fun _ _ => rfl) rfl rfl (by decide) h01 rfl ?_
  refine am_B.if_eq rfl rfl (fun _ => ?_) (fun z => absurd q4 z)
  refine am_B.run (hp := false) (sp := [364]) (pc := 363) (lo := [some (.ref 0), some (.ref 1), some (.ref 53), some (.ref 69), some (.ref 70), some (.int (nI 0)), some (.int (nI 1)), none, none]) (st := [.int (nI 0), .int (xs 2), .int (xs 1), .ref 53]) (pc' := 364) (lo' := [some (.ref 0), some (.ref 1), some (.ref 53), some (.ref 69), some (.ref 70), some (.int (nI 0)), some (.int (nI 1)), none, none]) (st' := [.int (nI 0), .int (nI 0), .int (xs 2), .int (xs 1), .ref 53]) 200 rfl ?_
  refine am_B.callV (rc := 2) (rs := 400) (ci := 5) (n := 4) (as := [.int (xs 1), .int (xs 2), .int (nI 0), .int (nI 0)]) rfl rfl rfl (mc_link _ M1 (xs 1) (xs 2) (nI 0) (nI 0)) rfl rfl (by exact Nat.le_of_ble_eq_true rfl) rfl M1.2.1 rfl rfl (fun v h2 z => ?_)
  obtain ⟨rfl, p1, p2, vs, p3, p4⟩ := z
  have h02 := (p2 0 (Or.inl rfl)).trans h01
  refine am_B.run (hp := false) (sp := []) (pc := 367) (lo := [some (.ref 0), some (.ref 1), some (.ref 53), some (.ref 69), some (.ref 70), some (.int (nI 0)), some (.int (nI 1)), none, none]) (st := [_]) (pc' := 370) (lo' := [some (.ref 0), some (.ref 1), some (.ref 53), some (.ref 69), some (.ref 70), some (.int (nI 0)), some (.int (nI 1)), some _, none]) (st' := [.ref 53]) 200 rfl ?_
  refine am_B.callV (rc := 2) (rs := 400) (ci := 5) (n := 0) (as := []) rfl rfl rfl (mc_thrown _ 1 vs p3 p4) rfl rfl (by exact Nat.le_of_ble_eq_true rfl) rfl p3 rfl rfl (fun v h3 z => ?_)
  obtain ⟨rfl, rfl⟩ := z
  refine am_B.run (hp := false) (sp := []) (pc := 373) (lo := [some (.ref 0), some (.ref 1), some (.ref 53), some (.ref 69), some (.ref 70), some (.int (nI 0)), some (.int (nI 1)), some _, none]) (st := [.int (nI 1)]) (pc' := 375) (lo' := [some (.ref 0), some (.ref 1), some (.ref 53), some (.ref 69), some (.ref 70), some (.int (nI 0)), some (.int (nI 1)), some _, none]) (st' := [.int (nI 1), .int (nI 1)]) 200 rfl ?_
  refine am_B.icmp_eq rfl rfl (fun _ => ?_) (fun z => absurd rfl z)
  refine am_B.run (hp := false) (sp := []) (pc := 380) (lo := [some (.ref 0), some (.ref 1), some (.ref 53), some (.ref 69), some (.ref 70), some (.int (nI 0)), some (.int (nI 1)), some _, none]) (st := []) (pc' := 382) (lo' := [some (.ref 0), some (.ref 1), some (.ref 53), some (.ref 69), some (.ref 70), some (.int (nI 0)), some (.int (nI 1)), some _, none]) (st' := [.int (nI 1)]) 200 rfl ?_
  refine am_B.if_ne rfl rfl (fun _ => ?_) (fun z => absurd z (by decide))
  refine am_B.run (hp := false) (sp := [1893]) (pc := 404) (lo := [some (.ref 0), some (.ref 1), some (.ref 53), some (.ref 69), some (.ref 70), some (.int (nI 0)), some (.int (nI 1)), some _, none]) (st := []) (pc' := 1893) (lo' := [some (.ref 0), some (.ref 1), some (.ref 53), some (.ref 69), some (.ref 70), some (.int (nI 0)), some (.int (nI 1)), some _, none]) (st' := []) 200 rfl ?_
  exact lw_up (lc_end nm xs _ h02 _ _ _ _ _)
set_option maxRecDepth 100000 in
set_option maxHeartbeats 4000000 in
theorem lc_link01 (nm : String) (xs : Nat → Int32) (h : am_H) (X : xF h) (M : mF h) (h0 : h[0]? = some (.inl (99, 5, .inl xs))) (h69 : h[69]? = some (la fun _ => 0)) (h70 : h[70]? = some (da fun _ => 0)) (q3 : xs 3 = 0) (q4 : ¬ xs 4 = 0) : lB nm 276 [some (.ref 0), some (.ref 1), some (.ref 53), some (.ref 69), some (.ref 70), some (.int (nI 0)), none, none, none] [] h 3 406 := by
  refine lw_sub (rows := r_LW_law_2 ++ (r_LW_law_3 ++ (r_LW_law_4))) (am_all_app ok_LW_law_2 (am_all_app ok_LW_law_3 (ok_LW_law_4))) ?_
  refine am_B.run (hp := false) (sp := [277]) (pc := 276) (lo := [some (.ref 0), some (.ref 1), some (.ref 53), some (.ref 69), some (.ref 70), some (.int (nI 0)), none, none, none]) (st := []) (pc' := 277) (lo' := [some (.ref 0), some (.ref 1), some (.ref 53), some (.ref 69), some (.ref 70), some (.int (nI 0)), none, none, none]) (st' := [.ref 1]) 200 rfl ?_
  refine lw_ld 277 283 (j := 1) (v := xs 1) rfl rfl rfl (fun _ _ => rfl) rfl rfl (by decide) h0 rfl ?_
  refine lw_ld 283 289 (j := 2) (v := xs 2) rfl rfl rfl (fun _ _ => rfl) rfl rfl (by decide) h0 rfl ?_
  refine lw_ld 289 295 (j := 3) (v := xs 3) rfl rfl rfl (fun _ _ => rfl) rfl rfl (by decide) h0 rfl ?_
  refine am_B.if_eq rfl rfl (fun _ => ?_) (fun z => absurd q3 z)
  refine am_B.run (hp := false) (sp := [303]) (pc := 302) (lo := [some (.ref 0), some (.ref 1), some (.ref 53), some (.ref 69), some (.ref 70), some (.int (nI 0)), none, none, none]) (st := [.int (xs 2), .int (xs 1), .ref 1]) (pc' := 303) (lo' := [some (.ref 0), some (.ref 1), some (.ref 53), some (.ref 69), some (.ref 70), some (.int (nI 0)), none, none, none]) (st' := [.int (nI 0), .int (xs 2), .int (xs 1), .ref 1]) 200 rfl ?_
  refine lw_ld 303 309 (j := 4) (v := xs 4) rfl rfl rfl (fun _ _ => rfl) rfl rfl (by decide) h0 rfl ?_
  refine am_B.if_eq rfl rfl (fun z => absurd z q4) (fun _ => ?_)
  refine am_B.run (hp := false) (sp := [317]) (pc := 312) (lo := [some (.ref 0), some (.ref 1), some (.ref 53), some (.ref 69), some (.ref 70), some (.int (nI 0)), none, none, none]) (st := [.int (nI 0), .int (xs 2), .int (xs 1), .ref 1]) (pc' := 317) (lo' := [some (.ref 0), some (.ref 1), some (.ref 53), some (.ref 69), some (.ref 70), some (.int (nI 0)), none, none, none]) (st' := [.int (nI 1), .int (nI 0), .int (xs 2), .int (xs 1), .ref 1]) 200 rfl ?_
  refine am_B.run (hp := false) (sp := []) (pc := 317) (lo := [some (.ref 0), some (.ref 1), some (.ref 53), some (.ref 69), some (.ref 70), some (.int (nI 0)), none, none, none]) (st := [.int (nI 1), .int (nI 0), .int (xs 2), .int (xs 1), .ref 1]) (pc' := 318) (lo' := [some (.ref 0), some (.ref 1), some (.ref 53), some (.ref 69), some (.ref 70), some (.int (nI 0)), none, none, none]) (st' := [.ref 69, .int (nI 1), .int (nI 0), .int (xs 2), .int (xs 1), .ref 1]) 200 rfl ?_
  refine am_B.callSW (rc := 2) (rs := 400) (M := m_LW_link) (n := 6) (as := [.ref 1, .int (xs 1), .int (xs 2), .int (nI 0), .int (nI 1), .ref 69]) rfl rfl kw1_link kw2_link kw3_link kw5_LW kw4_link (ls_link h X (xs 1) (xs 2) (nI 0) (nI 1)) rfl rfl (by exact Nat.le_of_ble_eq_true rfl) rfl rfl rfl (fun v h' z => ?_)
  obtain ⟨rfl, o1⟩ := z
  have M1 : mF h' := M.of o1
  have h01 := (o1.2 0 (by have := M.1; omega) (Or.inl rfl)).trans h0
  refine am_B.run (hp := false) (sp := [323]) (pc := 321) (lo := [some (.ref 0), some (.ref 1), some (.ref 53), some (.ref 69), some (.ref 70), some (.int (nI 0)), none, none, none]) (st := [.int (nI 1)]) (pc' := 323) (lo' := [some (.ref 0), some (.ref 1), some (.ref 53), some (.ref 69), some (.ref 70), some (.int (nI 0)), some (.int (nI 1)), none, none]) (st' := []) 200 rfl ?_
  refine am_B.run (hp := false) (sp := [324]) (pc := 323) (lo := [some (.ref 0), some (.ref 1), some (.ref 53), some (.ref 69), some (.ref 70), some (.int (nI 0)), some (.int (nI 1)), none, none]) (st := []) (pc' := 324) (lo' := [some (.ref 0), some (.ref 1), some (.ref 53), some (.ref 69), some (.ref 70), some (.int (nI 0)), some (.int (nI 1)), none, none]) (st' := [.ref 53]) 200 rfl ?_
  refine lw_ld 324 330 (j := 1) (v := xs 1) rfl rfl rfl (fun _ _ => rfl) rfl rfl (by decide) h01 rfl ?_
  refine lw_ld 330 336 (j := 2) (v := xs 2) rfl rfl rfl (fun _ _ => rfl) rfl rfl (by decide) h01 rfl ?_
  refine lw_ld 336 342 (j := 3) (v := xs 3) rfl rfl rfl (fun _ _ => rfl) rfl rfl (by decide) h01 rfl ?_
  refine am_B.if_eq rfl rfl (fun _ => ?_) (fun z => absurd q3 z)
  refine am_B.run (hp := false) (sp := [350]) (pc := 349) (lo := [some (.ref 0), some (.ref 1), some (.ref 53), some (.ref 69), some (.ref 70), some (.int (nI 0)), some (.int (nI 1)), none, none]) (st := [.int (xs 2), .int (xs 1), .ref 53]) (pc' := 350) (lo' := [some (.ref 0), some (.ref 1), some (.ref 53), some (.ref 69), some (.ref 70), some (.int (nI 0)), some (.int (nI 1)), none, none]) (st' := [.int (nI 0), .int (xs 2), .int (xs 1), .ref 53]) 200 rfl ?_
  refine lw_ld 350 356 (j := 4) (v := xs 4) rfl rfl rfl (fun _ _ => rfl) rfl rfl (by decide) h01 rfl ?_
  refine am_B.if_eq rfl rfl (fun z => absurd z q4) (fun _ => ?_)
  refine am_B.run (hp := false) (sp := [364]) (pc := 359) (lo := [some (.ref 0), some (.ref 1), some (.ref 53), some (.ref 69), some (.ref 70), some (.int (nI 0)), some (.int (nI 1)), none, none]) (st := [.int (nI 0), .int (xs 2), .int (xs 1), .ref 53]) (pc' := 364) (lo' := [some (.ref 0), some (.ref 1), some (.ref 53), some (.ref 69), some (.ref 70), some (.int (nI 0)), some (.int (nI 1)), none, none]) (st' := [.int (nI 1), .int (nI 0), .int (xs 2), .int (xs 1), .ref 53]) 200 rfl ?_
  refine am_B.callV (rc := 2) (rs := 400) (ci := 5) (n := 4) (as := [.int (xs 1), .int (xs 2), .int (nI 0), .int (nI 1)]) rfl rfl rfl (mc_link _ M1 (xs 1) (xs 2) (nI 0) (nI 1)) rfl rfl (by exact Nat.le_of_ble_eq_true rfl) rfl M1.2.1 rfl rfl (fun v h2 z => ?_)
  obtain ⟨rfl, p1, p2, vs, p3, p4⟩ := z
  have h02 := (p2 0 (Or.inl rfl)).trans h01
  refine am_B.run (hp := false) (sp := []) (pc := 367) (lo := [some (.ref 0), some (.ref 1), some (.ref 53), some (.ref 69), some (.ref 70), some (.int (nI 0)), some (.int (nI 1)), none, none]) (st := [_]) (pc' := 370) (lo' := [some (.ref 0), some (.ref 1), some (.ref 53), some (.ref 69), some (.ref 70), some (.int (nI 0)), some (.int (nI 1)), some _, none]) (st' := [.ref 53]) 200 rfl ?_
  refine am_B.callV (rc := 2) (rs := 400) (ci := 5) (n := 0) (as := []) rfl rfl rfl (mc_thrown _ 1 vs p3 p4) rfl rfl (by exact Nat.le_of_ble_eq_true rfl) rfl p3 rfl rfl (fun v h3 z => ?_)
  obtain ⟨rfl, rfl⟩ := z
  refine am_B.run (hp := false) (sp := []) (pc := 373) (lo := [some (.ref 0), some (.ref 1), some (.ref 53), some (.ref 69), some (.ref 70), some (.int (nI 0)), some (.int (nI 1)), some _, none]) (st := [.int (nI 1)]) (pc' := 375) (lo' := [some (.ref 0), some (.ref 1), some (.ref 53), some (.ref 69), some (.ref 70), some (.int (nI 0)), some (.int (nI 1)), some _, none]) (st' := [.int (nI 1), .int (nI 1)]) 200 rfl ?_
  refine am_B.icmp_eq rfl rfl (fun _ => ?_) (fun z => absurd rfl z)
  refine am_B.run (hp := false) (sp := []) (pc := 380) (lo := [some (.ref 0), some (.ref 1), some (.ref 53), some (.ref 69), some (.ref 70), some (.int (nI 0)), some (.int (nI 1)), some _, none]) (st := []) (pc' := 382) (lo' := [some (.ref 0), some (.ref 1), some (.ref 53), some (.ref 69), some (.ref 70), some (.int (nI 0)), some (.int (nI 1)), some _, none]) (st' := [.int (nI 1)]) 200 rfl ?_
  refine am_B.if_ne rfl rfl (fun _ => ?_) (fun z => absurd z (by decide))
  refine am_B.run (hp := false) (sp := [1893]) (pc := 404) (lo := [some (.ref 0), some (.ref 1), some (.ref 53), some (.ref 69), some (.ref 70), some (.int (nI 0)), some (.int (nI 1)), some _, none]) (st := []) (pc' := 1893) (lo' := [some (.ref 0), some (.ref 1), some (.ref 53), some (.ref 69), some (.ref 70), some (.int (nI 0)), some (.int (nI 1)), some _, none]) (st' := []) 200 rfl ?_
  exact lw_up (lc_end nm xs _ h02 _ _ _ _ _)
set_option maxRecDepth 100000 in
set_option maxHeartbeats 4000000 in
theorem lc_link10 (nm : String) (xs : Nat → Int32) (h : am_H) (X : xF h) (M : mF h) (h0 : h[0]? = some (.inl (99, 5, .inl xs))) (h69 : h[69]? = some (la fun _ => 0)) (h70 : h[70]? = some (da fun _ => 0)) (q3 : ¬ xs 3 = 0) (q4 : xs 4 = 0) : lB nm 276 [some (.ref 0), some (.ref 1), some (.ref 53), some (.ref 69), some (.ref 70), some (.int (nI 0)), none, none, none] [] h 3 406 := by
  refine lw_sub (rows := r_LW_law_2 ++ (r_LW_law_3 ++ (r_LW_law_4))) (am_all_app ok_LW_law_2 (am_all_app ok_LW_law_3 (ok_LW_law_4))) ?_
  refine am_B.run (hp := false) (sp := [277]) (pc := 276) (lo := [some (.ref 0), some (.ref 1), some (.ref 53), some (.ref 69), some (.ref 70), some (.int (nI 0)), none, none, none]) (st := []) (pc' := 277) (lo' := [some (.ref 0), some (.ref 1), some (.ref 53), some (.ref 69), some (.ref 70), some (.int (nI 0)), none, none, none]) (st' := [.ref 1]) 200 rfl ?_
  refine lw_ld 277 283 (j := 1) (v := xs 1) rfl rfl rfl (fun _ _ => rfl) rfl rfl (by decide) h0 rfl ?_
  refine lw_ld 283 289 (j := 2) (v := xs 2) rfl rfl rfl (fun _ _ => rfl) rfl rfl (by decide) h0 rfl ?_
  refine lw_ld 289 295 (j := 3) (v := xs 3) rfl rfl rfl (fun _ _ => rfl) rfl rfl (by decide) h0 rfl ?_
  refine am_B.if_eq rfl rfl (fun z => absurd z q3) (fun _ => ?_)
  refine am_B.run (hp := false) (sp := [303]) (pc := 298) (lo := [some (.ref 0), some (.ref 1), some (.ref 53), some (.ref 69), some (.ref 70), some (.int (nI 0)), none, none, none]) (st := [.int (xs 2), .int (xs 1), .ref 1]) (pc' := 303) (lo' := [some (.ref 0), some (.ref 1), some (.ref 53), some (.ref 69), some (.ref 70), some (.int (nI 0)), none, none, none]) (st' := [.int (nI 1), .int (xs 2), .int (xs 1), .ref 1]) 200 rfl ?_
  refine lw_ld 303 309 (j := 4) (v := xs 4) rfl rfl rfl (fun _ _ => rfl) rfl rfl (by decide) h0 rfl ?_
  refine am_B.if_eq rfl rfl (fun _ => ?_) (fun z => absurd q4 z)
  refine am_B.run (hp := false) (sp := [317]) (pc := 316) (lo := [some (.ref 0), some (.ref 1), some (.ref 53), some (.ref 69), some (.ref 70), some (.int (nI 0)), none, none, none]) (st := [.int (nI 1), .int (xs 2), .int (xs 1), .ref 1]) (pc' := 317) (lo' := [some (.ref 0), some (.ref 1), some (.ref 53), some (.ref 69), some (.ref 70), some (.int (nI 0)), none, none, none]) (st' := [.int (nI 0), .int (nI 1), .int (xs 2), .int (xs 1), .ref 1]) 200 rfl ?_
  refine am_B.run (hp := false) (sp := []) (pc := 317) (lo := [some (.ref 0), some (.ref 1), some (.ref 53), some (.ref 69), some (.ref 70), some (.int (nI 0)), none, none, none]) (st := [.int (nI 0), .int (nI 1), .int (xs 2), .int (xs 1), .ref 1]) (pc' := 318) (lo' := [some (.ref 0), some (.ref 1), some (.ref 53), some (.ref 69), some (.ref 70), some (.int (nI 0)), none, none, none]) (st' := [.ref 69, .int (nI 0), .int (nI 1), .int (xs 2), .int (xs 1), .ref 1]) 200 rfl ?_
  refine am_B.callSW (rc := 2) (rs := 400) (M := m_LW_link) (n := 6) (as := [.ref 1, .int (xs 1), .int (xs 2), .int (nI 1), .int (nI 0), .ref 69]) rfl rfl kw1_link kw2_link kw3_link kw5_LW kw4_link (ls_link h X (xs 1) (xs 2) (nI 1) (nI 0)) rfl rfl (by exact Nat.le_of_ble_eq_true rfl) rfl rfl rfl (fun v h' z => ?_)
  obtain ⟨rfl, o1⟩ := z
  have M1 : mF h' := M.of o1
  have h01 := (o1.2 0 (by have := M.1; omega) (Or.inl rfl)).trans h0
  refine am_B.run (hp := false) (sp := [323]) (pc := 321) (lo := [some (.ref 0), some (.ref 1), some (.ref 53), some (.ref 69), some (.ref 70), some (.int (nI 0)), none, none, none]) (st := [.int (nI 1)]) (pc' := 323) (lo' := [some (.ref 0), some (.ref 1), some (.ref 53), some (.ref 69), some (.ref 70), some (.int (nI 0)), some (.int (nI 1)), none, none]) (st' := []) 200 rfl ?_
  refine am_B.run (hp := false) (sp := [324]) (pc := 323) (lo := [some (.ref 0), some (.ref 1), some (.ref 53), some (.ref 69), some (.ref 70), some (.int (nI 0)), some (.int (nI 1)), none, none]) (st := []) (pc' := 324) (lo' := [some (.ref 0), some (.ref 1), some (.ref 53), some (.ref 69), some (.ref 70), some (.int (nI 0)), some (.int (nI 1)), none, none]) (st' := [.ref 53]) 200 rfl ?_
  refine lw_ld 324 330 (j := 1) (v := xs 1) rfl rfl rfl (fun _ _ => rfl) rfl rfl (by decide) h01 rfl ?_
  refine lw_ld 330 336 (j := 2) (v := xs 2) rfl rfl rfl (fun _ _ => rfl) rfl rfl (by decide) h01 rfl ?_
  refine lw_ld 336 342 (j := 3) (v := xs 3) rfl rfl rfl (fun _ _ => rfl) rfl rfl (by decide) h01 rfl ?_
  refine am_B.if_eq rfl rfl (fun z => absurd z q3) (fun _ => ?_)
  refine am_B.run (hp := false) (sp := [350]) (pc := 345) (lo := [some (.ref 0), some (.ref 1), some (.ref 53), some (.ref 69), some (.ref 70), some (.int (nI 0)), some (.int (nI 1)), none, none]) (st := [.int (xs 2), .int (xs 1), .ref 53]) (pc' := 350) (lo' := [some (.ref 0), some (.ref 1), some (.ref 53), some (.ref 69), some (.ref 70), some (.int (nI 0)), some (.int (nI 1)), none, none]) (st' := [.int (nI 1), .int (xs 2), .int (xs 1), .ref 53]) 200 rfl ?_
  refine lw_ld 350 356 (j := 4) (v := xs 4) rfl rfl rfl (fun _ _ => rfl) rfl rfl (by decide) h01 rfl ?_
  refine am_B.if_eq rfl rfl (fun _ => ?_) (fun z => absurd q4 z)
  refine am_B.run (hp := false) (sp := [364]) (pc := 363) (lo := [some (.ref 0), some (.ref 1), some (.ref 53), some (.ref 69), some (.ref 70), some (.int (nI 0)), some (.int (nI 1)), none, none]) (st := [.int (nI 1), .int (xs 2), .int (xs 1), .ref 53]) (pc' := 364) (lo' := [some (.ref 0), some (.ref 1), some (.ref 53), some (.ref 69), some (.ref 70), some (.int (nI 0)), some (.int (nI 1)), none, none]) (st' := [.int (nI 0), .int (nI 1), .int (xs 2), .int (xs 1), .ref 53]) 200 rfl ?_
  refine am_B.callV (rc := 2) (rs := 400) (ci := 5) (n := 4) (as := [.int (xs 1), .int (xs 2), .int (nI 1), .int (nI 0)]) rfl rfl rfl (mc_link _ M1 (xs 1) (xs 2) (nI 1) (nI 0)) rfl rfl (by exact Nat.le_of_ble_eq_true rfl) rfl M1.2.1 rfl rfl (fun v h2 z => ?_)
  obtain ⟨rfl, p1, p2, vs, p3, p4⟩ := z
  have h02 := (p2 0 (Or.inl rfl)).trans h01
  refine am_B.run (hp := false) (sp := []) (pc := 367) (lo := [some (.ref 0), some (.ref 1), some (.ref 53), some (.ref 69), some (.ref 70), some (.int (nI 0)), some (.int (nI 1)), none, none]) (st := [_]) (pc' := 370) (lo' := [some (.ref 0), some (.ref 1), some (.ref 53), some (.ref 69), some (.ref 70), some (.int (nI 0)), some (.int (nI 1)), some _, none]) (st' := [.ref 53]) 200 rfl ?_
  refine am_B.callV (rc := 2) (rs := 400) (ci := 5) (n := 0) (as := []) rfl rfl rfl (mc_thrown _ 1 vs p3 p4) rfl rfl (by exact Nat.le_of_ble_eq_true rfl) rfl p3 rfl rfl (fun v h3 z => ?_)
  obtain ⟨rfl, rfl⟩ := z
  refine am_B.run (hp := false) (sp := []) (pc := 373) (lo := [some (.ref 0), some (.ref 1), some (.ref 53), some (.ref 69), some (.ref 70), some (.int (nI 0)), some (.int (nI 1)), some _, none]) (st := [.int (nI 1)]) (pc' := 375) (lo' := [some (.ref 0), some (.ref 1), some (.ref 53), some (.ref 69), some (.ref 70), some (.int (nI 0)), some (.int (nI 1)), some _, none]) (st' := [.int (nI 1), .int (nI 1)]) 200 rfl ?_
  refine am_B.icmp_eq rfl rfl (fun _ => ?_) (fun z => absurd rfl z)
  refine am_B.run (hp := false) (sp := []) (pc := 380) (lo := [some (.ref 0), some (.ref 1), some (.ref 53), some (.ref 69), some (.ref 70), some (.int (nI 0)), some (.int (nI 1)), some _, none]) (st := []) (pc' := 382) (lo' := [some (.ref 0), some (.ref 1), some (.ref 53), some (.ref 69), some (.ref 70), some (.int (nI 0)), some (.int (nI 1)), some _, none]) (st' := [.int (nI 1)]) 200 rfl ?_
  refine am_B.if_ne rfl rfl (fun _ => ?_) (fun z => absurd z (by decide))
  refine am_B.run (hp := false) (sp := [1893]) (pc := 404) (lo := [some (.ref 0), some (.ref 1), some (.ref 53), some (.ref 69), some (.ref 70), some (.int (nI 0)), some (.int (nI 1)), some _, none]) (st := []) (pc' := 1893) (lo' := [some (.ref 0), some (.ref 1), some (.ref 53), some (.ref 69), some (.ref 70), some (.int (nI 0)), some (.int (nI 1)), some _, none]) (st' := []) 200 rfl ?_
  exact lw_up (lc_end nm xs _ h02 _ _ _ _ _)
set_option maxRecDepth 100000 in
set_option maxHeartbeats 4000000 in
theorem lc_link11 (nm : String) (xs : Nat → Int32) (h : am_H) (X : xF h) (M : mF h) (h0 : h[0]? = some (.inl (99, 5, .inl xs))) (h69 : h[69]? = some (la fun _ => 0)) (h70 : h[70]? = some (da fun _ => 0)) (q3 : ¬ xs 3 = 0) (q4 : ¬ xs 4 = 0) : lB nm 276 [some (.ref 0), some (.ref 1), some (.ref 53), some (.ref 69), some (.ref 70), some (.int (nI 0)), none, none, none] [] h 3 406 := by
  refine lw_sub (rows := r_LW_law_2 ++ (r_LW_law_3 ++ (r_LW_law_4))) (am_all_app ok_LW_law_2 (am_all_app ok_LW_law_3 (ok_LW_law_4))) ?_
  refine am_B.run (hp := false) (sp := [277]) (pc := 276) (lo := [some (.ref 0), some (.ref 1), some (.ref 53), some (.ref 69), some (.ref 70), some (.int (nI 0)), none, none, none]) (st := []) (pc' := 277) (lo' := [some (.ref 0), some (.ref 1), some (.ref 53), some (.ref 69), some (.ref 70), some (.int (nI 0)), none, none, none]) (st' := [.ref 1]) 200 rfl ?_
  refine lw_ld 277 283 (j := 1) (v := xs 1) rfl rfl rfl (fun _ _ => rfl) rfl rfl (by decide) h0 rfl ?_
  refine lw_ld 283 289 (j := 2) (v := xs 2) rfl rfl rfl (fun _ _ => rfl) rfl rfl (by decide) h0 rfl ?_
  refine lw_ld 289 295 (j := 3) (v := xs 3) rfl rfl rfl (fun _ _ => rfl) rfl rfl (by decide) h0 rfl ?_
  refine am_B.if_eq rfl rfl (fun z => absurd z q3) (fun _ => ?_)
  refine am_B.run (hp := false) (sp := [303]) (pc := 298) (lo := [some (.ref 0), some (.ref 1), some (.ref 53), some (.ref 69), some (.ref 70), some (.int (nI 0)), none, none, none]) (st := [.int (xs 2), .int (xs 1), .ref 1]) (pc' := 303) (lo' := [some (.ref 0), some (.ref 1), some (.ref 53), some (.ref 69), some (.ref 70), some (.int (nI 0)), none, none, none]) (st' := [.int (nI 1), .int (xs 2), .int (xs 1), .ref 1]) 200 rfl ?_
  refine lw_ld 303 309 (j := 4) (v := xs 4) rfl rfl rfl (fun _ _ => rfl) rfl rfl (by decide) h0 rfl ?_
  refine am_B.if_eq rfl rfl (fun z => absurd z q4) (fun _ => ?_)
  refine am_B.run (hp := false) (sp := [317]) (pc := 312) (lo := [some (.ref 0), some (.ref 1), some (.ref 53), some (.ref 69), some (.ref 70), some (.int (nI 0)), none, none, none]) (st := [.int (nI 1), .int (xs 2), .int (xs 1), .ref 1]) (pc' := 317) (lo' := [some (.ref 0), some (.ref 1), some (.ref 53), some (.ref 69), some (.ref 70), some (.int (nI 0)), none, none, none]) (st' := [.int (nI 1), .int (nI 1), .int (xs 2), .int (xs 1), .ref 1]) 200 rfl ?_
  refine am_B.run (hp := false) (sp := []) (pc := 317) (lo := [some (.ref 0), some (.ref 1), some (.ref 53), some (.ref 69), some (.ref 70), some (.int (nI 0)), none, none, none]) (st := [.int (nI 1), .int (nI 1), .int (xs 2), .int (xs 1), .ref 1]) (pc' := 318) (lo' := [some (.ref 0), some (.ref 1), some (.ref 53), some (.ref 69), some (.ref 70), some (.int (nI 0)), none, none, none]) (st' := [.ref 69, .int (nI 1), .int (nI 1), .int (xs 2), .int (xs 1), .ref 1]) 200 rfl ?_
  refine am_B.callSW (rc := 2) (rs := 400) (M := m_LW_link) (n := 6) (as := [.ref 1, .int (xs 1), .int (xs 2), .int (nI 1), .int (nI 1), .ref 69]) rfl rfl kw1_link kw2_link kw3_link kw5_LW kw4_link (ls_link h X (xs 1) (xs 2) (nI 1) (nI 1)) rfl rfl (by exact Nat.le_of_ble_eq_true rfl) rfl rfl rfl (fun v h' z => ?_)
  obtain ⟨rfl, o1⟩ := z
  have M1 : mF h' := M.of o1
  have h01 := (o1.2 0 (by have := M.1; omega) (Or.inl rfl)).trans h0
  refine am_B.run (hp := false) (sp := [323]) (pc := 321) (lo := [some (.ref 0), some (.ref 1), some (.ref 53), some (.ref 69), some (.ref 70), some (.int (nI 0)), none, none, none]) (st := [.int (nI 1)]) (pc' := 323) (lo' := [some (.ref 0), some (.ref 1), some (.ref 53), some (.ref 69), some (.ref 70), some (.int (nI 0)), some (.int (nI 1)), none, none]) (st' := []) 200 rfl ?_
  refine am_B.run (hp := false) (sp := [324]) (pc := 323) (lo := [some (.ref 0), some (.ref 1), some (.ref 53), some (.ref 69), some (.ref 70), some (.int (nI 0)), some (.int (nI 1)), none, none]) (st := []) (pc' := 324) (lo' := [some (.ref 0), some (.ref 1), some (.ref 53), some (.ref 69), some (.ref 70), some (.int (nI 0)), some (.int (nI 1)), none, none]) (st' := [.ref 53]) 200 rfl ?_
  refine lw_ld 324 330 (j := 1) (v := xs 1) rfl rfl rfl (fun _ _ => rfl) rfl rfl (by decide) h01 rfl ?_
  refine lw_ld 330 336 (j := 2) (v := xs 2) rfl rfl rfl (fun _ _ => rfl) rfl rfl (by decide) h01 rfl ?_
  refine lw_ld 336 342 (j := 3) (v := xs 3) rfl rfl rfl (fun _ _ => rfl) rfl rfl (by decide) h01 rfl ?_
  refine am_B.if_eq rfl rfl (fun z => absurd z q3) (fun _ => ?_)
  refine am_B.run (hp := false) (sp := [350]) (pc := 345) (lo := [some (.ref 0), some (.ref 1), some (.ref 53), some (.ref 69), some (.ref 70), some (.int (nI 0)), some (.int (nI 1)), none, none]) (st := [.int (xs 2), .int (xs 1), .ref 53]) (pc' := 350) (lo' := [some (.ref 0), some (.ref 1), some (.ref 53), some (.ref 69), some (.ref 70), some (.int (nI 0)), some (.int (nI 1)), none, none]) (st' := [.int (nI 1), .int (xs 2), .int (xs 1), .ref 53]) 200 rfl ?_
  refine lw_ld 350 356 (j := 4) (v := xs 4) rfl rfl rfl (fun _ _ => rfl) rfl rfl (by decide) h01 rfl ?_
  refine am_B.if_eq rfl rfl (fun z => absurd z q4) (fun _ => ?_)
  refine am_B.run (hp := false) (sp := [364]) (pc := 359) (lo := [some (.ref 0), some (.ref 1), some (.ref 53), some (.ref 69), some (.ref 70), some (.int (nI 0)), some (.int (nI 1)), none, none]) (st := [.int (nI 1), .int (xs 2), .int (xs 1), .ref 53]) (pc' := 364) (lo' := [some (.ref 0), some (.ref 1), some (.ref 53), some (.ref 69), some (.ref 70), some (.int (nI 0)), some (.int (nI 1)), none, none]) (st' := [.int (nI 1), .int (nI 1), .int (xs 2), .int (xs 1), .ref 53]) 200 rfl ?_
  refine am_B.callV (rc := 2) (rs := 400) (ci := 5) (n := 4) (as := [.int (xs 1), .int (xs 2), .int (nI 1), .int (nI 1)]) rfl rfl rfl (mc_link _ M1 (xs 1) (xs 2) (nI 1) (nI 1)) rfl rfl (by exact Nat.le_of_ble_eq_true rfl) rfl M1.2.1 rfl rfl (fun v h2 z => ?_)
  obtain ⟨rfl, p1, p2, vs, p3, p4⟩ := z
  have h02 := (p2 0 (Or.inl rfl)).trans h01
  refine am_B.run (hp := false) (sp := []) (pc := 367) (lo := [some (.ref 0), some (.ref 1), some (.ref 53), some (.ref 69), some (.ref 70), some (.int (nI 0)), some (.int (nI 1)), none, none]) (st := [_]) (pc' := 370) (lo' := [some (.ref 0), some (.ref 1), some (.ref 53), some (.ref 69), some (.ref 70), some (.int (nI 0)), some (.int (nI 1)), some _, none]) (st' := [.ref 53]) 200 rfl ?_
  refine am_B.callV (rc := 2) (rs := 400) (ci := 5) (n := 0) (as := []) rfl rfl rfl (mc_thrown _ 1 vs p3 p4) rfl rfl (by exact Nat.le_of_ble_eq_true rfl) rfl p3 rfl rfl (fun v h3 z => ?_)
  obtain ⟨rfl, rfl⟩ := z
  refine am_B.run (hp := false) (sp := []) (pc := 373) (lo := [some (.ref 0), some (.ref 1), some (.ref 53), some (.ref 69), some (.ref 70), some (.int (nI 0)), some (.int (nI 1)), some _, none]) (st := [.int (nI 1)]) (pc' := 375) (lo' := [some (.ref 0), some (.ref 1), some (.ref 53), some (.ref 69), some (.ref 70), some (.int (nI 0)), some (.int (nI 1)), some _, none]) (st' := [.int (nI 1), .int (nI 1)]) 200 rfl ?_
  refine am_B.icmp_eq rfl rfl (fun _ => ?_) (fun z => absurd rfl z)
  refine am_B.run (hp := false) (sp := []) (pc := 380) (lo := [some (.ref 0), some (.ref 1), some (.ref 53), some (.ref 69), some (.ref 70), some (.int (nI 0)), some (.int (nI 1)), some _, none]) (st := []) (pc' := 382) (lo' := [some (.ref 0), some (.ref 1), some (.ref 53), some (.ref 69), some (.ref 70), some (.int (nI 0)), some (.int (nI 1)), some _, none]) (st' := [.int (nI 1)]) 200 rfl ?_
  refine am_B.if_ne rfl rfl (fun _ => ?_) (fun z => absurd z (by decide))
  refine am_B.run (hp := false) (sp := [1893]) (pc := 404) (lo := [some (.ref 0), some (.ref 1), some (.ref 53), some (.ref 69), some (.ref 70), some (.int (nI 0)), some (.int (nI 1)), some _, none]) (st := []) (pc' := 1893) (lo' := [some (.ref 0), some (.ref 1), some (.ref 53), some (.ref 69), some (.ref 70), some (.int (nI 0)), some (.int (nI 1)), some _, none]) (st' := []) 200 rfl ?_
  exact lw_up (lc_end nm xs _ h02 _ _ _ _ _)
set_option maxRecDepth 100000 in
set_option maxHeartbeats 4000000 in
theorem lc_setTokens0 (nm : String) (xs : Nat → Int32) (h : am_H) (X : xF h) (M : mF h) (h0 : h[0]? = some (.inl (99, 5, .inl xs))) (h69 : h[69]? = some (la fun _ => 0)) (h70 : h[70]? = some (da fun _ => 0)) (q3 : xs 3 = 0) : lB nm 407 [some (.ref 0), some (.ref 1), some (.ref 53), some (.ref 69), some (.ref 70), some (.int (nI 0)), none, none, none] [] h 3 406 := by
  refine lw_sub (rows := r_LW_law_4 ++ (r_LW_law_5)) (am_all_app ok_LW_law_4 (ok_LW_law_5)) ?_
  refine am_B.run (hp := false) (sp := [408]) (pc := 407) (lo := [some (.ref 0), some (.ref 1), some (.ref 53), some (.ref 69), some (.ref 70), some (.int (nI 0)), none, none, none]) (st := []) (pc' := 408) (lo' := [some (.ref 0), some (.ref 1), some (.ref 53), some (.ref 69), some (.ref 70), some (.int (nI 0)), none, none, none]) (st' := [.ref 1]) 200 rfl ?_
  refine lw_ld 408 414 (j := 1) (v := xs 1) rfl rfl rfl (fun _ _ => rfl) rfl rfl (by decide) h0 rfl ?_
  refine lw_ld 414 420 (j := 2) (v := xs 2) rfl rfl rfl (fun _ _ => rfl) rfl rfl (by decide) h0 rfl ?_
  refine lw_ld 420 426 (j := 3) (v := xs 3) rfl rfl rfl (fun _ _ => rfl) rfl rfl (by decide) h0 rfl ?_
  refine am_B.if_eq rfl rfl (fun _ => ?_) (fun z => absurd q3 z)
  refine am_B.run (hp := false) (sp := [434]) (pc := 433) (lo := [some (.ref 0), some (.ref 1), some (.ref 53), some (.ref 69), some (.ref 70), some (.int (nI 0)), none, none, none]) (st := [.int (xs 2), .int (xs 1), .ref 1]) (pc' := 434) (lo' := [some (.ref 0), some (.ref 1), some (.ref 53), some (.ref 69), some (.ref 70), some (.int (nI 0)), none, none, none]) (st' := [.int (nI 0), .int (xs 2), .int (xs 1), .ref 1]) 200 rfl ?_
  refine am_B.run (hp := false) (sp := []) (pc := 434) (lo := [some (.ref 0), some (.ref 1), some (.ref 53), some (.ref 69), some (.ref 70), some (.int (nI 0)), none, none, none]) (st := [.int (nI 0), .int (xs 2), .int (xs 1), .ref 1]) (pc' := 435) (lo' := [some (.ref 0), some (.ref 1), some (.ref 53), some (.ref 69), some (.ref 70), some (.int (nI 0)), none, none, none]) (st' := [.ref 69, .int (nI 0), .int (xs 2), .int (xs 1), .ref 1]) 200 rfl ?_
  refine am_B.callSW (rc := 2) (rs := 400) (M := m_LW_setTokens) (n := 5) (as := [.ref 1, .int (xs 1), .int (xs 2), .int (nI 0), .ref 69]) rfl rfl kw1_setTokens kw2_setTokens kw3_setTokens kw5_LW kw4_setTokens (ls_setTokens h X (xs 1) (xs 2) (nI 0)) rfl rfl (by exact Nat.le_of_ble_eq_true rfl) rfl rfl rfl (fun v h' z => ?_)
  obtain ⟨rfl, o1⟩ := z
  have M1 : mF h' := M.of o1
  have h01 := (o1.2 0 (by have := M.1; omega) (Or.inl rfl)).trans h0
  refine am_B.run (hp := false) (sp := [440]) (pc := 438) (lo := [some (.ref 0), some (.ref 1), some (.ref 53), some (.ref 69), some (.ref 70), some (.int (nI 0)), none, none, none]) (st := [.int (nI 1)]) (pc' := 440) (lo' := [some (.ref 0), some (.ref 1), some (.ref 53), some (.ref 69), some (.ref 70), some (.int (nI 0)), some (.int (nI 1)), none, none]) (st' := []) 200 rfl ?_
  refine am_B.run (hp := false) (sp := [441]) (pc := 440) (lo := [some (.ref 0), some (.ref 1), some (.ref 53), some (.ref 69), some (.ref 70), some (.int (nI 0)), some (.int (nI 1)), none, none]) (st := []) (pc' := 441) (lo' := [some (.ref 0), some (.ref 1), some (.ref 53), some (.ref 69), some (.ref 70), some (.int (nI 0)), some (.int (nI 1)), none, none]) (st' := [.ref 53]) 200 rfl ?_
  refine lw_ld 441 447 (j := 1) (v := xs 1) rfl rfl rfl (fun _ _ => rfl) rfl rfl (by decide) h01 rfl ?_
  refine lw_ld 447 453 (j := 2) (v := xs 2) rfl rfl rfl (fun _ _ => rfl) rfl rfl (by decide) h01 rfl ?_
  refine lw_ld 453 459 (j := 3) (v := xs 3) rfl rfl rfl (fun _ _ => rfl) rfl rfl (by decide) h01 rfl ?_
  refine am_B.if_eq rfl rfl (fun _ => ?_) (fun z => absurd q3 z)
  refine am_B.run (hp := false) (sp := [467]) (pc := 466) (lo := [some (.ref 0), some (.ref 1), some (.ref 53), some (.ref 69), some (.ref 70), some (.int (nI 0)), some (.int (nI 1)), none, none]) (st := [.int (xs 2), .int (xs 1), .ref 53]) (pc' := 467) (lo' := [some (.ref 0), some (.ref 1), some (.ref 53), some (.ref 69), some (.ref 70), some (.int (nI 0)), some (.int (nI 1)), none, none]) (st' := [.int (nI 0), .int (xs 2), .int (xs 1), .ref 53]) 200 rfl ?_
  refine am_B.callV (rc := 2) (rs := 400) (ci := 5) (n := 3) (as := [.int (xs 1), .int (xs 2), .int (nI 0)]) rfl rfl rfl (mc_setTokens _ M1 (xs 1) (xs 2) (nI 0)) rfl rfl (by exact Nat.le_of_ble_eq_true rfl) rfl M1.2.1 rfl rfl (fun v h2 z => ?_)
  obtain ⟨rfl, p1, p2, vs, p3, p4⟩ := z
  have h02 := (p2 0 (Or.inl rfl)).trans h01
  refine am_B.run (hp := false) (sp := []) (pc := 470) (lo := [some (.ref 0), some (.ref 1), some (.ref 53), some (.ref 69), some (.ref 70), some (.int (nI 0)), some (.int (nI 1)), none, none]) (st := [_]) (pc' := 473) (lo' := [some (.ref 0), some (.ref 1), some (.ref 53), some (.ref 69), some (.ref 70), some (.int (nI 0)), some (.int (nI 1)), some _, none]) (st' := [.ref 53]) 200 rfl ?_
  refine am_B.callV (rc := 2) (rs := 400) (ci := 5) (n := 0) (as := []) rfl rfl rfl (mc_thrown _ 1 vs p3 p4) rfl rfl (by exact Nat.le_of_ble_eq_true rfl) rfl p3 rfl rfl (fun v h3 z => ?_)
  obtain ⟨rfl, rfl⟩ := z
  refine am_B.run (hp := false) (sp := []) (pc := 476) (lo := [some (.ref 0), some (.ref 1), some (.ref 53), some (.ref 69), some (.ref 70), some (.int (nI 0)), some (.int (nI 1)), some _, none]) (st := [.int (nI 1)]) (pc' := 478) (lo' := [some (.ref 0), some (.ref 1), some (.ref 53), some (.ref 69), some (.ref 70), some (.int (nI 0)), some (.int (nI 1)), some _, none]) (st' := [.int (nI 1), .int (nI 1)]) 200 rfl ?_
  refine am_B.icmp_eq rfl rfl (fun _ => ?_) (fun z => absurd rfl z)
  refine am_B.run (hp := false) (sp := []) (pc := 483) (lo := [some (.ref 0), some (.ref 1), some (.ref 53), some (.ref 69), some (.ref 70), some (.int (nI 0)), some (.int (nI 1)), some _, none]) (st := []) (pc' := 485) (lo' := [some (.ref 0), some (.ref 1), some (.ref 53), some (.ref 69), some (.ref 70), some (.int (nI 0)), some (.int (nI 1)), some _, none]) (st' := [.int (nI 1)]) 200 rfl ?_
  refine am_B.if_ne rfl rfl (fun _ => ?_) (fun z => absurd z (by decide))
  refine am_B.run (hp := false) (sp := [1893]) (pc := 500) (lo := [some (.ref 0), some (.ref 1), some (.ref 53), some (.ref 69), some (.ref 70), some (.int (nI 0)), some (.int (nI 1)), some _, none]) (st := []) (pc' := 1893) (lo' := [some (.ref 0), some (.ref 1), some (.ref 53), some (.ref 69), some (.ref 70), some (.int (nI 0)), some (.int (nI 1)), some _, none]) (st' := []) 200 rfl ?_
  exact lw_up (lc_end nm xs _ h02 _ _ _ _ _)
set_option maxRecDepth 100000 in
set_option maxHeartbeats 4000000 in
theorem lc_setTokens1 (nm : String) (xs : Nat → Int32) (h : am_H) (X : xF h) (M : mF h) (h0 : h[0]? = some (.inl (99, 5, .inl xs))) (h69 : h[69]? = some (la fun _ => 0)) (h70 : h[70]? = some (da fun _ => 0)) (q3 : ¬ xs 3 = 0) : lB nm 407 [some (.ref 0), some (.ref 1), some (.ref 53), some (.ref 69), some (.ref 70), some (.int (nI 0)), none, none, none] [] h 3 406 := by
  refine lw_sub (rows := r_LW_law_4 ++ (r_LW_law_5)) (am_all_app ok_LW_law_4 (ok_LW_law_5)) ?_
  refine am_B.run (hp := false) (sp := [408]) (pc := 407) (lo := [some (.ref 0), some (.ref 1), some (.ref 53), some (.ref 69), some (.ref 70), some (.int (nI 0)), none, none, none]) (st := []) (pc' := 408) (lo' := [some (.ref 0), some (.ref 1), some (.ref 53), some (.ref 69), some (.ref 70), some (.int (nI 0)), none, none, none]) (st' := [.ref 1]) 200 rfl ?_
  refine lw_ld 408 414 (j := 1) (v := xs 1) rfl rfl rfl (fun _ _ => rfl) rfl rfl (by decide) h0 rfl ?_
  refine lw_ld 414 420 (j := 2) (v := xs 2) rfl rfl rfl (fun _ _ => rfl) rfl rfl (by decide) h0 rfl ?_
  refine lw_ld 420 426 (j := 3) (v := xs 3) rfl rfl rfl (fun _ _ => rfl) rfl rfl (by decide) h0 rfl ?_
  refine am_B.if_eq rfl rfl (fun z => absurd z q3) (fun _ => ?_)
  refine am_B.run (hp := false) (sp := [434]) (pc := 429) (lo := [some (.ref 0), some (.ref 1), some (.ref 53), some (.ref 69), some (.ref 70), some (.int (nI 0)), none, none, none]) (st := [.int (xs 2), .int (xs 1), .ref 1]) (pc' := 434) (lo' := [some (.ref 0), some (.ref 1), some (.ref 53), some (.ref 69), some (.ref 70), some (.int (nI 0)), none, none, none]) (st' := [.int (nI 1), .int (xs 2), .int (xs 1), .ref 1]) 200 rfl ?_
  refine am_B.run (hp := false) (sp := []) (pc := 434) (lo := [some (.ref 0), some (.ref 1), some (.ref 53), some (.ref 69), some (.ref 70), some (.int (nI 0)), none, none, none]) (st := [.int (nI 1), .int (xs 2), .int (xs 1), .ref 1]) (pc' := 435) (lo' := [some (.ref 0), some (.ref 1), some (.ref 53), some (.ref 69), some (.ref 70), some (.int (nI 0)), none, none, none]) (st' := [.ref 69, .int (nI 1), .int (xs 2), .int (xs 1), .ref 1]) 200 rfl ?_
  refine am_B.callSW (rc := 2) (rs := 400) (M := m_LW_setTokens) (n := 5) (as := [.ref 1, .int (xs 1), .int (xs 2), .int (nI 1), .ref 69]) rfl rfl kw1_setTokens kw2_setTokens kw3_setTokens kw5_LW kw4_setTokens (ls_setTokens h X (xs 1) (xs 2) (nI 1)) rfl rfl (by exact Nat.le_of_ble_eq_true rfl) rfl rfl rfl (fun v h' z => ?_)
  obtain ⟨rfl, o1⟩ := z
  have M1 : mF h' := M.of o1
  have h01 := (o1.2 0 (by have := M.1; omega) (Or.inl rfl)).trans h0
  refine am_B.run (hp := false) (sp := [440]) (pc := 438) (lo := [some (.ref 0), some (.ref 1), some (.ref 53), some (.ref 69), some (.ref 70), some (.int (nI 0)), none, none, none]) (st := [.int (nI 1)]) (pc' := 440) (lo' := [some (.ref 0), some (.ref 1), some (.ref 53), some (.ref 69), some (.ref 70), some (.int (nI 0)), some (.int (nI 1)), none, none]) (st' := []) 200 rfl ?_
  refine am_B.run (hp := false) (sp := [441]) (pc := 440) (lo := [some (.ref 0), some (.ref 1), some (.ref 53), some (.ref 69), some (.ref 70), some (.int (nI 0)), some (.int (nI 1)), none, none]) (st := []) (pc' := 441) (lo' := [some (.ref 0), some (.ref 1), some (.ref 53), some (.ref 69), some (.ref 70), some (.int (nI 0)), some (.int (nI 1)), none, none]) (st' := [.ref 53]) 200 rfl ?_
  refine lw_ld 441 447 (j := 1) (v := xs 1) rfl rfl rfl (fun _ _ => rfl) rfl rfl (by decide) h01 rfl ?_
  refine lw_ld 447 453 (j := 2) (v := xs 2) rfl rfl rfl (fun _ _ => rfl) rfl rfl (by decide) h01 rfl ?_
  refine lw_ld 453 459 (j := 3) (v := xs 3) rfl rfl rfl (fun _ _ => rfl) rfl rfl (by decide) h01 rfl ?_
  refine am_B.if_eq rfl rfl (fun z => absurd z q3) (fun _ => ?_)
  refine am_B.run (hp := false) (sp := [467]) (pc := 462) (lo := [some (.ref 0), some (.ref 1), some (.ref 53), some (.ref 69), some (.ref 70), some (.int (nI 0)), some (.int (nI 1)), none, none]) (st := [.int (xs 2), .int (xs 1), .ref 53]) (pc' := 467) (lo' := [some (.ref 0), some (.ref 1), some (.ref 53), some (.ref 69), some (.ref 70), some (.int (nI 0)), some (.int (nI 1)), none, none]) (st' := [.int (nI 1), .int (xs 2), .int (xs 1), .ref 53]) 200 rfl ?_
  refine am_B.callV (rc := 2) (rs := 400) (ci := 5) (n := 3) (as := [.int (xs 1), .int (xs 2), .int (nI 1)]) rfl rfl rfl (mc_setTokens _ M1 (xs 1) (xs 2) (nI 1)) rfl rfl (by exact Nat.le_of_ble_eq_true rfl) rfl M1.2.1 rfl rfl (fun v h2 z => ?_)
  obtain ⟨rfl, p1, p2, vs, p3, p4⟩ := z
  have h02 := (p2 0 (Or.inl rfl)).trans h01
  refine am_B.run (hp := false) (sp := []) (pc := 470) (lo := [some (.ref 0), some (.ref 1), some (.ref 53), some (.ref 69), some (.ref 70), some (.int (nI 0)), some (.int (nI 1)), none, none]) (st := [_]) (pc' := 473) (lo' := [some (.ref 0), some (.ref 1), some (.ref 53), some (.ref 69), some (.ref 70), some (.int (nI 0)), some (.int (nI 1)), some _, none]) (st' := [.ref 53]) 200 rfl ?_
  refine am_B.callV (rc := 2) (rs := 400) (ci := 5) (n := 0) (as := []) rfl rfl rfl (mc_thrown _ 1 vs p3 p4) rfl rfl (by exact Nat.le_of_ble_eq_true rfl) rfl p3 rfl rfl (fun v h3 z => ?_)
  obtain ⟨rfl, rfl⟩ := z
  refine am_B.run (hp := false) (sp := []) (pc := 476) (lo := [some (.ref 0), some (.ref 1), some (.ref 53), some (.ref 69), some (.ref 70), some (.int (nI 0)), some (.int (nI 1)), some _, none]) (st := [.int (nI 1)]) (pc' := 478) (lo' := [some (.ref 0), some (.ref 1), some (.ref 53), some (.ref 69), some (.ref 70), some (.int (nI 0)), some (.int (nI 1)), some _, none]) (st' := [.int (nI 1), .int (nI 1)]) 200 rfl ?_
  refine am_B.icmp_eq rfl rfl (fun _ => ?_) (fun z => absurd rfl z)
  refine am_B.run (hp := false) (sp := []) (pc := 483) (lo := [some (.ref 0), some (.ref 1), some (.ref 53), some (.ref 69), some (.ref 70), some (.int (nI 0)), some (.int (nI 1)), some _, none]) (st := []) (pc' := 485) (lo' := [some (.ref 0), some (.ref 1), some (.ref 53), some (.ref 69), some (.ref 70), some (.int (nI 0)), some (.int (nI 1)), some _, none]) (st' := [.int (nI 1)]) 200 rfl ?_
  refine am_B.if_ne rfl rfl (fun _ => ?_) (fun z => absurd z (by decide))
  refine am_B.run (hp := false) (sp := [1893]) (pc := 500) (lo := [some (.ref 0), some (.ref 1), some (.ref 53), some (.ref 69), some (.ref 70), some (.int (nI 0)), some (.int (nI 1)), some _, none]) (st := []) (pc' := 1893) (lo' := [some (.ref 0), some (.ref 1), some (.ref 53), some (.ref 69), some (.ref 70), some (.int (nI 0)), some (.int (nI 1)), some _, none]) (st' := []) 200 rfl ?_
  exact lw_up (lc_end nm xs _ h02 _ _ _ _ _)
set_option maxRecDepth 100000 in
set_option maxHeartbeats 4000000 in
theorem lc_count0 (nm : String) (xs : Nat → Int32) (h : am_H) (X : xF h) (M : mF h) (h0 : h[0]? = some (.inl (99, 5, .inl xs))) (h69 : h[69]? = some (la fun _ => 0)) (h70 : h[70]? = some (da fun _ => 0)) (e1 : xs 1 = (nI 0)) : lB nm 503 [some (.ref 0), some (.ref 1), some (.ref 53), some (.ref 69), some (.ref 70), some (.int (nI 0)), none, none, none] [] h 3 406 := by
  refine lw_sub (rows := r_LW_law_5 ++ (r_LW_law_6)) (am_all_app ok_LW_law_5 (ok_LW_law_6)) ?_
  refine am_B.run (hp := false) (sp := [504]) (pc := 503) (lo := [some (.ref 0), some (.ref 1), some (.ref 53), some (.ref 69), some (.ref 70), some (.int (nI 0)), none, none, none]) (st := []) (pc' := 504) (lo' := [some (.ref 0), some (.ref 1), some (.ref 53), some (.ref 69), some (.ref 70), some (.int (nI 0)), none, none, none]) (st' := [.ref 1]) 200 rfl ?_
  refine lw_ld 504 510 (j := 1) (v := (nI 0)) rfl rfl rfl (fun _ _ => rfl) rfl rfl (by decide) h0 e1 ?_
  refine am_B.run (hp := false) (sp := []) (pc := 510) (lo := [some (.ref 0), some (.ref 1), some (.ref 53), some (.ref 69), some (.ref 70), some (.int (nI 0)), none, none, none]) (st := [.int ((nI 0)), .ref 1]) (pc' := 511) (lo' := [some (.ref 0), some (.ref 1), some (.ref 53), some (.ref 69), some (.ref 70), some (.int (nI 0)), none, none, none]) (st' := [.ref 69, .int ((nI 0)), .ref 1]) 200 rfl ?_
  refine am_B.callSW (rc := 2) (rs := 400) (M := m_LW_count) (n := 3) (as := [.ref 1, .int (nI 0), .ref 69]) rfl rfl kw1_count kw2_count kw3_count kw5_LW kw4_count (ls_count0 h X (fun _ => 0) h69) rfl rfl (by exact Nat.le_of_ble_eq_true rfl) rfl rfl rfl (fun v h' z => ?_)
  obtain ⟨rfl, o1, g, hg, hg0⟩ := z
  have M1 : mF h' := M.of o1
  have h01 := (o1.2 0 (by have := M.1; omega) (Or.inl rfl)).trans h0
  refine am_B.run (hp := false) (sp := [516]) (pc := 514) (lo := [some (.ref 0), some (.ref 1), some (.ref 53), some (.ref 69), some (.ref 70), some (.int (nI 0)), none, none, none]) (st := [.int (nI 0)]) (pc' := 516) (lo' := [some (.ref 0), some (.ref 1), some (.ref 53), some (.ref 69), some (.ref 70), some (.int (nI 0)), some (.int (nI 0)), none, none]) (st' := []) 200 rfl ?_
  refine am_B.run (hp := false) (sp := [517]) (pc := 516) (lo := [some (.ref 0), some (.ref 1), some (.ref 53), some (.ref 69), some (.ref 70), some (.int (nI 0)), some (.int (nI 0)), none, none]) (st := []) (pc' := 517) (lo' := [some (.ref 0), some (.ref 1), some (.ref 53), some (.ref 69), some (.ref 70), some (.int (nI 0)), some (.int (nI 0)), none, none]) (st' := [.ref 53]) 200 rfl ?_
  refine lw_ld 517 523 (j := 1) (v := (nI 0)) rfl rfl rfl (fun _ _ => rfl) rfl rfl (by decide) h01 e1 ?_
  refine am_B.callV (rc := 2) (rs := 400) (ci := 5) (n := 1) (as := [.int (nI 0)]) rfl rfl rfl (mc_count0 _ M1) rfl rfl (by exact Nat.le_of_ble_eq_true rfl) rfl M1.2.1 rfl rfl (fun v h2 z => ?_)
  obtain ⟨rfl, p1, p2, vs, p3, p4⟩ := z
  have h02 := (p2 0 (Or.inl rfl)).trans h01
  refine am_B.run (hp := false) (sp := []) (pc := 526) (lo := [some (.ref 0), some (.ref 1), some (.ref 53), some (.ref 69), some (.ref 70), some (.int (nI 0)), some (.int (nI 0)), none, none]) (st := [_]) (pc' := 529) (lo' := [some (.ref 0), some (.ref 1), some (.ref 53), some (.ref 69), some (.ref 70), some (.int (nI 0)), some (.int (nI 0)), some _, none]) (st' := [.ref 53]) 200 rfl ?_
  refine am_B.callV (rc := 2) (rs := 400) (ci := 5) (n := 0) (as := []) rfl rfl rfl (mc_thrown _ 0 vs p3 p4) rfl rfl (by exact Nat.le_of_ble_eq_true rfl) rfl p3 rfl rfl (fun v h3 z => ?_)
  obtain ⟨rfl, rfl⟩ := z
  refine am_B.run (hp := false) (sp := []) (pc := 532) (lo := [some (.ref 0), some (.ref 1), some (.ref 53), some (.ref 69), some (.ref 70), some (.int (nI 0)), some (.int (nI 0)), some _, none]) (st := [.int (nI 0)]) (pc' := 534) (lo' := [some (.ref 0), some (.ref 1), some (.ref 53), some (.ref 69), some (.ref 70), some (.int (nI 0)), some (.int (nI 0)), some _, none]) (st' := [.int (nI 0), .int (nI 0)]) 200 rfl ?_
  refine am_B.icmp_eq rfl rfl (fun _ => ?_) (fun z => absurd rfl z)
  refine am_B.run (hp := false) (sp := []) (pc := 539) (lo := [some (.ref 0), some (.ref 1), some (.ref 53), some (.ref 69), some (.ref 70), some (.int (nI 0)), some (.int (nI 0)), some _, none]) (st := []) (pc' := 541) (lo' := [some (.ref 0), some (.ref 1), some (.ref 53), some (.ref 69), some (.ref 70), some (.int (nI 0)), some (.int (nI 0)), some _, none]) (st' := [.int (nI 0)]) 200 rfl ?_
  refine am_B.if_ne rfl rfl (fun z => absurd rfl z) (fun _ => ?_)
  refine am_B.run (hp := false) (sp := []) (pc := 544) (lo := [some (.ref 0), some (.ref 1), some (.ref 53), some (.ref 69), some (.ref 70), some (.int (nI 0)), some (.int (nI 0)), some _, none]) (st := []) (pc' := 546) (lo' := [some (.ref 0), some (.ref 1), some (.ref 53), some (.ref 69), some (.ref 70), some (.int (nI 0)), some (.int (nI 0)), some _, none]) (st' := [.int (nI 0), .ref 69]) 200 rfl ?_
  refine am_B.ald rfl ((p2 69 (by decide)).trans hg) (vp_n (show 0 < 1 by decide) rfl) rfl ?_
  rw [nI_clamp (show 0 < 2 ^ 31 by decide), hg0]
  refine am_B.run (hp := false) (sp := []) 200 rfl ?_
  refine am_B.if_eq rfl rfl (fun _ => ?_) (fun z => absurd (by first | decide | rfl | decide +kernel) z)
  refine am_B.run (hp := false) (sp := [1893]) 200 rfl ?_
  exact lw_up (lc_end nm xs _ h02 _ _ _ _ _)
set_option maxRecDepth 100000 in
set_option maxHeartbeats 4000000 in
theorem lc_count1 (nm : String) (xs : Nat → Int32) (h : am_H) (X : xF h) (M : mF h) (h0 : h[0]? = some (.inl (99, 5, .inl xs))) (h69 : h[69]? = some (la fun _ => 0)) (h70 : h[70]? = some (da fun _ => 0)) (e1 : xs 1 = (nI 1)) : lB nm 503 [some (.ref 0), some (.ref 1), some (.ref 53), some (.ref 69), some (.ref 70), some (.int (nI 0)), none, none, none] [] h 3 406 := by
  refine lw_sub (rows := r_LW_law_5 ++ (r_LW_law_6)) (am_all_app ok_LW_law_5 (ok_LW_law_6)) ?_
  refine am_B.run (hp := false) (sp := [504]) (pc := 503) (lo := [some (.ref 0), some (.ref 1), some (.ref 53), some (.ref 69), some (.ref 70), some (.int (nI 0)), none, none, none]) (st := []) (pc' := 504) (lo' := [some (.ref 0), some (.ref 1), some (.ref 53), some (.ref 69), some (.ref 70), some (.int (nI 0)), none, none, none]) (st' := [.ref 1]) 200 rfl ?_
  refine lw_ld 504 510 (j := 1) (v := (nI 1)) rfl rfl rfl (fun _ _ => rfl) rfl rfl (by decide) h0 e1 ?_
  refine am_B.run (hp := false) (sp := []) (pc := 510) (lo := [some (.ref 0), some (.ref 1), some (.ref 53), some (.ref 69), some (.ref 70), some (.int (nI 0)), none, none, none]) (st := [.int ((nI 1)), .ref 1]) (pc' := 511) (lo' := [some (.ref 0), some (.ref 1), some (.ref 53), some (.ref 69), some (.ref 70), some (.int (nI 0)), none, none, none]) (st' := [.ref 69, .int ((nI 1)), .ref 1]) 200 rfl ?_
  refine am_B.callSW (rc := 2) (rs := 400) (M := m_LW_count) (n := 3) (as := [.ref 1, .int (nI 1), .ref 69]) rfl rfl kw1_count kw2_count kw3_count kw5_LW kw4_count (ls_count1 h X (fun _ => 0) h69) rfl rfl (by exact Nat.le_of_ble_eq_true rfl) rfl rfl rfl (fun v h' z => ?_)
  obtain ⟨rfl, o1, g, hg, hg0⟩ := z
  have M1 : mF h' := M.of o1
  have h01 := (o1.2 0 (by have := M.1; omega) (Or.inl rfl)).trans h0
  refine am_B.run (hp := false) (sp := [516]) (pc := 514) (lo := [some (.ref 0), some (.ref 1), some (.ref 53), some (.ref 69), some (.ref 70), some (.int (nI 0)), none, none, none]) (st := [.int (nI 0)]) (pc' := 516) (lo' := [some (.ref 0), some (.ref 1), some (.ref 53), some (.ref 69), some (.ref 70), some (.int (nI 0)), some (.int (nI 0)), none, none]) (st' := []) 200 rfl ?_
  refine am_B.run (hp := false) (sp := [517]) (pc := 516) (lo := [some (.ref 0), some (.ref 1), some (.ref 53), some (.ref 69), some (.ref 70), some (.int (nI 0)), some (.int (nI 0)), none, none]) (st := []) (pc' := 517) (lo' := [some (.ref 0), some (.ref 1), some (.ref 53), some (.ref 69), some (.ref 70), some (.int (nI 0)), some (.int (nI 0)), none, none]) (st' := [.ref 53]) 200 rfl ?_
  refine lw_ld 517 523 (j := 1) (v := (nI 1)) rfl rfl rfl (fun _ _ => rfl) rfl rfl (by decide) h01 e1 ?_
  refine am_B.callV (rc := 2) (rs := 400) (ci := 5) (n := 1) (as := [.int (nI 1)]) rfl rfl rfl (mc_count1 _ M1) rfl rfl (by exact Nat.le_of_ble_eq_true rfl) rfl M1.2.1 rfl rfl (fun v h2 z => ?_)
  obtain ⟨rfl, p1, p2, vs, p3, p4⟩ := z
  have h02 := (p2 0 (Or.inl rfl)).trans h01
  refine am_B.run (hp := false) (sp := []) (pc := 526) (lo := [some (.ref 0), some (.ref 1), some (.ref 53), some (.ref 69), some (.ref 70), some (.int (nI 0)), some (.int (nI 0)), none, none]) (st := [_]) (pc' := 529) (lo' := [some (.ref 0), some (.ref 1), some (.ref 53), some (.ref 69), some (.ref 70), some (.int (nI 0)), some (.int (nI 0)), some _, none]) (st' := [.ref 53]) 200 rfl ?_
  refine am_B.callV (rc := 2) (rs := 400) (ci := 5) (n := 0) (as := []) rfl rfl rfl (mc_thrown _ 0 vs p3 p4) rfl rfl (by exact Nat.le_of_ble_eq_true rfl) rfl p3 rfl rfl (fun v h3 z => ?_)
  obtain ⟨rfl, rfl⟩ := z
  refine am_B.run (hp := false) (sp := []) (pc := 532) (lo := [some (.ref 0), some (.ref 1), some (.ref 53), some (.ref 69), some (.ref 70), some (.int (nI 0)), some (.int (nI 0)), some _, none]) (st := [.int (nI 0)]) (pc' := 534) (lo' := [some (.ref 0), some (.ref 1), some (.ref 53), some (.ref 69), some (.ref 70), some (.int (nI 0)), some (.int (nI 0)), some _, none]) (st' := [.int (nI 0), .int (nI 0)]) 200 rfl ?_
  refine am_B.icmp_eq rfl rfl (fun _ => ?_) (fun z => absurd rfl z)
  refine am_B.run (hp := false) (sp := []) (pc := 539) (lo := [some (.ref 0), some (.ref 1), some (.ref 53), some (.ref 69), some (.ref 70), some (.int (nI 0)), some (.int (nI 0)), some _, none]) (st := []) (pc' := 541) (lo' := [some (.ref 0), some (.ref 1), some (.ref 53), some (.ref 69), some (.ref 70), some (.int (nI 0)), some (.int (nI 0)), some _, none]) (st' := [.int (nI 0)]) 200 rfl ?_
  refine am_B.if_ne rfl rfl (fun z => absurd rfl z) (fun _ => ?_)
  refine am_B.run (hp := false) (sp := []) (pc := 544) (lo := [some (.ref 0), some (.ref 1), some (.ref 53), some (.ref 69), some (.ref 70), some (.int (nI 0)), some (.int (nI 0)), some _, none]) (st := []) (pc' := 546) (lo' := [some (.ref 0), some (.ref 1), some (.ref 53), some (.ref 69), some (.ref 70), some (.int (nI 0)), some (.int (nI 0)), some _, none]) (st' := [.int (nI 0), .ref 69]) 200 rfl ?_
  refine am_B.ald rfl ((p2 69 (by decide)).trans hg) (vp_n (show 0 < 1 by decide) rfl) rfl ?_
  rw [nI_clamp (show 0 < 2 ^ 31 by decide), hg0]
  refine am_B.run (hp := false) (sp := []) 200 rfl ?_
  refine am_B.if_eq rfl rfl (fun _ => ?_) (fun z => absurd (by first | decide | rfl | decide +kernel) z)
  refine am_B.run (hp := false) (sp := [1893]) 200 rfl ?_
  exact lw_up (lc_end nm xs _ h02 _ _ _ _ _)
set_option maxRecDepth 100000 in
set_option maxHeartbeats 4000000 in
theorem lc_count2 (nm : String) (xs : Nat → Int32) (h : am_H) (X : xF h) (M : mF h) (h0 : h[0]? = some (.inl (99, 5, .inl xs))) (h69 : h[69]? = some (la fun _ => 0)) (h70 : h[70]? = some (da fun _ => 0)) (e1 : xs 1 = (nI 2)) : lB nm 503 [some (.ref 0), some (.ref 1), some (.ref 53), some (.ref 69), some (.ref 70), some (.int (nI 0)), none, none, none] [] h 3 406 := by
  refine lw_sub (rows := r_LW_law_5 ++ (r_LW_law_6)) (am_all_app ok_LW_law_5 (ok_LW_law_6)) ?_
  refine am_B.run (hp := false) (sp := [504]) (pc := 503) (lo := [some (.ref 0), some (.ref 1), some (.ref 53), some (.ref 69), some (.ref 70), some (.int (nI 0)), none, none, none]) (st := []) (pc' := 504) (lo' := [some (.ref 0), some (.ref 1), some (.ref 53), some (.ref 69), some (.ref 70), some (.int (nI 0)), none, none, none]) (st' := [.ref 1]) 200 rfl ?_
  refine lw_ld 504 510 (j := 1) (v := (nI 2)) rfl rfl rfl (fun _ _ => rfl) rfl rfl (by decide) h0 e1 ?_
  refine am_B.run (hp := false) (sp := []) (pc := 510) (lo := [some (.ref 0), some (.ref 1), some (.ref 53), some (.ref 69), some (.ref 70), some (.int (nI 0)), none, none, none]) (st := [.int ((nI 2)), .ref 1]) (pc' := 511) (lo' := [some (.ref 0), some (.ref 1), some (.ref 53), some (.ref 69), some (.ref 70), some (.int (nI 0)), none, none, none]) (st' := [.ref 69, .int ((nI 2)), .ref 1]) 200 rfl ?_
  refine am_B.callSW (rc := 2) (rs := 400) (M := m_LW_count) (n := 3) (as := [.ref 1, .int (nI 2), .ref 69]) rfl rfl kw1_count kw2_count kw3_count kw5_LW kw4_count (ls_count2 h X (fun _ => 0) h69) rfl rfl (by exact Nat.le_of_ble_eq_true rfl) rfl rfl rfl (fun v h' z => ?_)
  obtain ⟨rfl, o1, g, hg, hg0⟩ := z
  have M1 : mF h' := M.of o1
  have h01 := (o1.2 0 (by have := M.1; omega) (Or.inl rfl)).trans h0
  refine am_B.run (hp := false) (sp := [516]) (pc := 514) (lo := [some (.ref 0), some (.ref 1), some (.ref 53), some (.ref 69), some (.ref 70), some (.int (nI 0)), none, none, none]) (st := [.int (nI 0)]) (pc' := 516) (lo' := [some (.ref 0), some (.ref 1), some (.ref 53), some (.ref 69), some (.ref 70), some (.int (nI 0)), some (.int (nI 0)), none, none]) (st' := []) 200 rfl ?_
  refine am_B.run (hp := false) (sp := [517]) (pc := 516) (lo := [some (.ref 0), some (.ref 1), some (.ref 53), some (.ref 69), some (.ref 70), some (.int (nI 0)), some (.int (nI 0)), none, none]) (st := []) (pc' := 517) (lo' := [some (.ref 0), some (.ref 1), some (.ref 53), some (.ref 69), some (.ref 70), some (.int (nI 0)), some (.int (nI 0)), none, none]) (st' := [.ref 53]) 200 rfl ?_
  refine lw_ld 517 523 (j := 1) (v := (nI 2)) rfl rfl rfl (fun _ _ => rfl) rfl rfl (by decide) h01 e1 ?_
  refine am_B.callV (rc := 2) (rs := 400) (ci := 5) (n := 1) (as := [.int (nI 2)]) rfl rfl rfl (mc_count2 _ M1) rfl rfl (by exact Nat.le_of_ble_eq_true rfl) rfl M1.2.1 rfl rfl (fun v h2 z => ?_)
  obtain ⟨rfl, p1, p2, vs, p3, p4⟩ := z
  have h02 := (p2 0 (Or.inl rfl)).trans h01
  refine am_B.run (hp := false) (sp := []) (pc := 526) (lo := [some (.ref 0), some (.ref 1), some (.ref 53), some (.ref 69), some (.ref 70), some (.int (nI 0)), some (.int (nI 0)), none, none]) (st := [_]) (pc' := 529) (lo' := [some (.ref 0), some (.ref 1), some (.ref 53), some (.ref 69), some (.ref 70), some (.int (nI 0)), some (.int (nI 0)), some _, none]) (st' := [.ref 53]) 200 rfl ?_
  refine am_B.callV (rc := 2) (rs := 400) (ci := 5) (n := 0) (as := []) rfl rfl rfl (mc_thrown _ 0 vs p3 p4) rfl rfl (by exact Nat.le_of_ble_eq_true rfl) rfl p3 rfl rfl (fun v h3 z => ?_)
  obtain ⟨rfl, rfl⟩ := z
  refine am_B.run (hp := false) (sp := []) (pc := 532) (lo := [some (.ref 0), some (.ref 1), some (.ref 53), some (.ref 69), some (.ref 70), some (.int (nI 0)), some (.int (nI 0)), some _, none]) (st := [.int (nI 0)]) (pc' := 534) (lo' := [some (.ref 0), some (.ref 1), some (.ref 53), some (.ref 69), some (.ref 70), some (.int (nI 0)), some (.int (nI 0)), some _, none]) (st' := [.int (nI 0), .int (nI 0)]) 200 rfl ?_
  refine am_B.icmp_eq rfl rfl (fun _ => ?_) (fun z => absurd rfl z)
  refine am_B.run (hp := false) (sp := []) (pc := 539) (lo := [some (.ref 0), some (.ref 1), some (.ref 53), some (.ref 69), some (.ref 70), some (.int (nI 0)), some (.int (nI 0)), some _, none]) (st := []) (pc' := 541) (lo' := [some (.ref 0), some (.ref 1), some (.ref 53), some (.ref 69), some (.ref 70), some (.int (nI 0)), some (.int (nI 0)), some _, none]) (st' := [.int (nI 0)]) 200 rfl ?_
  refine am_B.if_ne rfl rfl (fun z => absurd rfl z) (fun _ => ?_)
  refine am_B.run (hp := false) (sp := []) (pc := 544) (lo := [some (.ref 0), some (.ref 1), some (.ref 53), some (.ref 69), some (.ref 70), some (.int (nI 0)), some (.int (nI 0)), some _, none]) (st := []) (pc' := 546) (lo' := [some (.ref 0), some (.ref 1), some (.ref 53), some (.ref 69), some (.ref 70), some (.int (nI 0)), some (.int (nI 0)), some _, none]) (st' := [.int (nI 0), .ref 69]) 200 rfl ?_
  refine am_B.ald rfl ((p2 69 (by decide)).trans hg) (vp_n (show 0 < 1 by decide) rfl) rfl ?_
  rw [nI_clamp (show 0 < 2 ^ 31 by decide), hg0]
  refine am_B.run (hp := false) (sp := []) 200 rfl ?_
  refine am_B.if_eq rfl rfl (fun _ => ?_) (fun z => absurd (by first | decide | rfl | decide +kernel) z)
  refine am_B.run (hp := false) (sp := [1893]) 200 rfl ?_
  exact lw_up (lc_end nm xs _ h02 _ _ _ _ _)
set_option maxRecDepth 100000 in
set_option maxHeartbeats 4000000 in
theorem lc_countB (nm : String) (xs : Nat → Int32) (h : am_H) (X : xF h) (M : mF h) (h0 : h[0]? = some (.inl (99, 5, .inl xs))) (h69 : h[69]? = some (la fun _ => 0)) (h70 : h[70]? = some (da fun _ => 0)) (hx : xbad (xs 1) 3) : lB nm 503 [some (.ref 0), some (.ref 1), some (.ref 53), some (.ref 69), some (.ref 70), some (.int (nI 0)), none, none, none] [] h 3 406 := by
  refine lw_sub (rows := r_LW_law_5 ++ (r_LW_law_6)) (am_all_app ok_LW_law_5 (ok_LW_law_6)) ?_
  refine am_B.run (hp := false) (sp := [504]) (pc := 503) (lo := [some (.ref 0), some (.ref 1), some (.ref 53), some (.ref 69), some (.ref 70), some (.int (nI 0)), none, none, none]) (st := []) (pc' := 504) (lo' := [some (.ref 0), some (.ref 1), some (.ref 53), some (.ref 69), some (.ref 70), some (.int (nI 0)), none, none, none]) (st' := [.ref 1]) 200 rfl ?_
  refine lw_ld 504 510 (j := 1) (v := xs 1) rfl rfl rfl (fun _ _ => rfl) rfl rfl (by decide) h0 rfl ?_
  refine am_B.run (hp := false) (sp := []) (pc := 510) (lo := [some (.ref 0), some (.ref 1), some (.ref 53), some (.ref 69), some (.ref 70), some (.int (nI 0)), none, none, none]) (st := [.int (xs 1), .ref 1]) (pc' := 511) (lo' := [some (.ref 0), some (.ref 1), some (.ref 53), some (.ref 69), some (.ref 70), some (.int (nI 0)), none, none, none]) (st' := [.ref 69, .int (xs 1), .ref 1]) 200 rfl ?_
  refine am_B.callSW (rc := 2) (rs := 400) (M := m_LW_count) (n := 3) (as := [.ref 1, .int (xs 1), .ref 69]) rfl rfl kw1_count kw2_count kw3_count kw5_LW kw4_count (ls_countB h X (xs 1) hx) rfl rfl (by exact Nat.le_of_ble_eq_true rfl) rfl rfl rfl (fun v h' z => ?_)
  obtain ⟨rfl, o1⟩ := z
  have M1 : mF h' := M.of o1
  have h01 := (o1.2 0 (by have := M.1; omega) (Or.inl rfl)).trans h0
  refine am_B.run (hp := false) (sp := [516]) (pc := 514) (lo := [some (.ref 0), some (.ref 1), some (.ref 53), some (.ref 69), some (.ref 70), some (.int (nI 0)), none, none, none]) (st := [.int (nI 1)]) (pc' := 516) (lo' := [some (.ref 0), some (.ref 1), some (.ref 53), some (.ref 69), some (.ref 70), some (.int (nI 0)), some (.int (nI 1)), none, none]) (st' := []) 200 rfl ?_
  refine am_B.run (hp := false) (sp := [517]) (pc := 516) (lo := [some (.ref 0), some (.ref 1), some (.ref 53), some (.ref 69), some (.ref 70), some (.int (nI 0)), some (.int (nI 1)), none, none]) (st := []) (pc' := 517) (lo' := [some (.ref 0), some (.ref 1), some (.ref 53), some (.ref 69), some (.ref 70), some (.int (nI 0)), some (.int (nI 1)), none, none]) (st' := [.ref 53]) 200 rfl ?_
  refine lw_ld 517 523 (j := 1) (v := xs 1) rfl rfl rfl (fun _ _ => rfl) rfl rfl (by decide) h01 rfl ?_
  refine am_B.callV (rc := 2) (rs := 400) (ci := 5) (n := 1) (as := [.int (xs 1)]) rfl rfl rfl (mc_countB _ M1 (xs 1) hx) rfl rfl (by exact Nat.le_of_ble_eq_true rfl) rfl M1.2.1 rfl rfl (fun v h2 z => ?_)
  obtain ⟨rfl, p1, p2, vs, p3, p4⟩ := z
  have h02 := (p2 0 (Or.inl rfl)).trans h01
  refine am_B.run (hp := false) (sp := []) (pc := 526) (lo := [some (.ref 0), some (.ref 1), some (.ref 53), some (.ref 69), some (.ref 70), some (.int (nI 0)), some (.int (nI 1)), none, none]) (st := [_]) (pc' := 529) (lo' := [some (.ref 0), some (.ref 1), some (.ref 53), some (.ref 69), some (.ref 70), some (.int (nI 0)), some (.int (nI 1)), some _, none]) (st' := [.ref 53]) 200 rfl ?_
  refine am_B.callV (rc := 2) (rs := 400) (ci := 5) (n := 0) (as := []) rfl rfl rfl (mc_thrown _ 1 vs p3 p4) rfl rfl (by exact Nat.le_of_ble_eq_true rfl) rfl p3 rfl rfl (fun v h3 z => ?_)
  obtain ⟨rfl, rfl⟩ := z
  refine am_B.run (hp := false) (sp := []) (pc := 532) (lo := [some (.ref 0), some (.ref 1), some (.ref 53), some (.ref 69), some (.ref 70), some (.int (nI 0)), some (.int (nI 1)), some _, none]) (st := [.int (nI 1)]) (pc' := 534) (lo' := [some (.ref 0), some (.ref 1), some (.ref 53), some (.ref 69), some (.ref 70), some (.int (nI 0)), some (.int (nI 1)), some _, none]) (st' := [.int (nI 1), .int (nI 1)]) 200 rfl ?_
  refine am_B.icmp_eq rfl rfl (fun _ => ?_) (fun z => absurd rfl z)
  refine am_B.run (hp := false) (sp := []) (pc := 539) (lo := [some (.ref 0), some (.ref 1), some (.ref 53), some (.ref 69), some (.ref 70), some (.int (nI 0)), some (.int (nI 1)), some _, none]) (st := []) (pc' := 541) (lo' := [some (.ref 0), some (.ref 1), some (.ref 53), some (.ref 69), some (.ref 70), some (.int (nI 0)), some (.int (nI 1)), some _, none]) (st' := [.int (nI 1)]) 200 rfl ?_
  refine am_B.if_ne rfl rfl (fun _ => ?_) (fun z => absurd z (by decide))
  refine am_B.run (hp := false) (sp := [1893]) (pc := 556) (lo := [some (.ref 0), some (.ref 1), some (.ref 53), some (.ref 69), some (.ref 70), some (.int (nI 0)), some (.int (nI 1)), some _, none]) (st := []) (pc' := 1893) (lo' := [some (.ref 0), some (.ref 1), some (.ref 53), some (.ref 69), some (.ref 70), some (.int (nI 0)), some (.int (nI 1)), some _, none]) (st' := []) 200 rfl ?_
  exact lw_up (lc_end nm xs _ h02 _ _ _ _ _)
set_option maxRecDepth 100000 in
set_option maxHeartbeats 4000000 in
theorem lc_label (nm : String) (xs : Nat → Int32) (h : am_H) (X : xF h) (M : mF h) (h0 : h[0]? = some (.inl (99, 5, .inl xs))) (h69 : h[69]? = some (la fun _ => 0)) (h70 : h[70]? = some (da fun _ => 0)) : lB nm 559 [some (.ref 0), some (.ref 1), some (.ref 53), some (.ref 69), some (.ref 70), some (.int (nI 0)), none, none, none] [] h 3 406 := by
  refine lw_sub (rows := r_LW_law_6 ++ (r_LW_law_7)) (am_all_app ok_LW_law_6 (ok_LW_law_7)) ?_
  refine am_B.run (hp := false) (sp := [560]) (pc := 559) (lo := [some (.ref 0), some (.ref 1), some (.ref 53), some (.ref 69), some (.ref 70), some (.int (nI 0)), none, none, none]) (st := []) (pc' := 560) (lo' := [some (.ref 0), some (.ref 1), some (.ref 53), some (.ref 69), some (.ref 70), some (.int (nI 0)), none, none, none]) (st' := [.ref 1]) 200 rfl ?_
  refine lw_ld 560 566 (j := 1) (v := xs 1) rfl rfl rfl (fun _ _ => rfl) rfl rfl (by decide) h0 rfl ?_
  refine am_B.run (hp := false) (sp := []) (pc := 566) (lo := [some (.ref 0), some (.ref 1), some (.ref 53), some (.ref 69), some (.ref 70), some (.int (nI 0)), none, none, none]) (st := [.int (xs 1), .ref 1]) (pc' := 567) (lo' := [some (.ref 0), some (.ref 1), some (.ref 53), some (.ref 69), some (.ref 70), some (.int (nI 0)), none, none, none]) (st' := [.ref 69, .int (xs 1), .ref 1]) 200 rfl ?_
  refine am_B.callSW (rc := 2) (rs := 400) (M := m_LW_label) (n := 3) (as := [.ref 1, .int (xs 1), .ref 69]) rfl rfl kw1_label kw2_label kw3_label kw5_LW kw4_label (ls_label h X (xs 1)) rfl rfl (by exact Nat.le_of_ble_eq_true rfl) rfl rfl rfl (fun v h' z => ?_)
  obtain ⟨rfl, o1⟩ := z
  have M1 : mF h' := M.of o1
  have h01 := (o1.2 0 (by have := M.1; omega) (Or.inl rfl)).trans h0
  refine am_B.run (hp := false) (sp := [572]) (pc := 570) (lo := [some (.ref 0), some (.ref 1), some (.ref 53), some (.ref 69), some (.ref 70), some (.int (nI 0)), none, none, none]) (st := [.int (nI 1)]) (pc' := 572) (lo' := [some (.ref 0), some (.ref 1), some (.ref 53), some (.ref 69), some (.ref 70), some (.int (nI 0)), some (.int (nI 1)), none, none]) (st' := []) 200 rfl ?_
  refine am_B.run (hp := false) (sp := [573]) (pc := 572) (lo := [some (.ref 0), some (.ref 1), some (.ref 53), some (.ref 69), some (.ref 70), some (.int (nI 0)), some (.int (nI 1)), none, none]) (st := []) (pc' := 573) (lo' := [some (.ref 0), some (.ref 1), some (.ref 53), some (.ref 69), some (.ref 70), some (.int (nI 0)), some (.int (nI 1)), none, none]) (st' := [.ref 53]) 200 rfl ?_
  refine lw_ld 573 579 (j := 1) (v := xs 1) rfl rfl rfl (fun _ _ => rfl) rfl rfl (by decide) h01 rfl ?_
  refine am_B.callV (rc := 2) (rs := 400) (ci := 5) (n := 1) (as := [.int (xs 1)]) rfl rfl rfl (mc_label _ M1 (xs 1)) rfl rfl (by exact Nat.le_of_ble_eq_true rfl) rfl M1.2.1 rfl rfl (fun v h2 z => ?_)
  obtain ⟨rfl, p1, p2, vs, p3, p4⟩ := z
  have h02 := (p2 0 (Or.inl rfl)).trans h01
  refine am_B.run (hp := false) (sp := []) (pc := 582) (lo := [some (.ref 0), some (.ref 1), some (.ref 53), some (.ref 69), some (.ref 70), some (.int (nI 0)), some (.int (nI 1)), none, none]) (st := [_]) (pc' := 585) (lo' := [some (.ref 0), some (.ref 1), some (.ref 53), some (.ref 69), some (.ref 70), some (.int (nI 0)), some (.int (nI 1)), some _, none]) (st' := [.ref 53]) 200 rfl ?_
  refine am_B.callV (rc := 2) (rs := 400) (ci := 5) (n := 0) (as := []) rfl rfl rfl (mc_thrown _ 1 vs p3 p4) rfl rfl (by exact Nat.le_of_ble_eq_true rfl) rfl p3 rfl rfl (fun v h3 z => ?_)
  obtain ⟨rfl, rfl⟩ := z
  refine am_B.run (hp := false) (sp := []) (pc := 588) (lo := [some (.ref 0), some (.ref 1), some (.ref 53), some (.ref 69), some (.ref 70), some (.int (nI 0)), some (.int (nI 1)), some _, none]) (st := [.int (nI 1)]) (pc' := 590) (lo' := [some (.ref 0), some (.ref 1), some (.ref 53), some (.ref 69), some (.ref 70), some (.int (nI 0)), some (.int (nI 1)), some _, none]) (st' := [.int (nI 1), .int (nI 1)]) 200 rfl ?_
  refine am_B.icmp_eq rfl rfl (fun _ => ?_) (fun z => absurd rfl z)
  refine am_B.run (hp := false) (sp := []) (pc := 595) (lo := [some (.ref 0), some (.ref 1), some (.ref 53), some (.ref 69), some (.ref 70), some (.int (nI 0)), some (.int (nI 1)), some _, none]) (st := []) (pc' := 597) (lo' := [some (.ref 0), some (.ref 1), some (.ref 53), some (.ref 69), some (.ref 70), some (.int (nI 0)), some (.int (nI 1)), some _, none]) (st' := [.int (nI 1)]) 200 rfl ?_
  refine am_B.if_ne rfl rfl (fun _ => ?_) (fun z => absurd z (by decide))
  refine am_B.run (hp := false) (sp := [1893]) (pc := 612) (lo := [some (.ref 0), some (.ref 1), some (.ref 53), some (.ref 69), some (.ref 70), some (.int (nI 0)), some (.int (nI 1)), some _, none]) (st := []) (pc' := 1893) (lo' := [some (.ref 0), some (.ref 1), some (.ref 53), some (.ref 69), some (.ref 70), some (.int (nI 0)), some (.int (nI 1)), some _, none]) (st' := []) 200 rfl ?_
  exact lw_up (lc_end nm xs _ h02 _ _ _ _ _)
set_option maxRecDepth 100000 in
set_option maxHeartbeats 4000000 in
theorem lc_tokensA (nm : String) (xs : Nat → Int32) (h : am_H) (X : xF h) (M : mF h) (h0 : h[0]? = some (.inl (99, 5, .inl xs))) (h69 : h[69]? = some (la fun _ => 0)) (h70 : h[70]? = some (da fun _ => 0)) (hx : xbad (xs 1) 1) : lB nm 628 [some (.ref 0), some (.ref 1), some (.ref 53), some (.ref 69), some (.ref 70), some (.int (nI 0)), none, none, none] [] h 3 406 := by
  refine lw_sub (rows := r_LW_law_7 ++ (r_LW_law_8)) (am_all_app ok_LW_law_7 (ok_LW_law_8)) ?_
  refine am_B.run (hp := false) (sp := [629]) (pc := 628) (lo := [some (.ref 0), some (.ref 1), some (.ref 53), some (.ref 69), some (.ref 70), some (.int (nI 0)), none, none, none]) (st := []) (pc' := 629) (lo' := [some (.ref 0), some (.ref 1), some (.ref 53), some (.ref 69), some (.ref 70), some (.int (nI 0)), none, none, none]) (st' := [.ref 1]) 200 rfl ?_
  refine lw_ld 629 635 (j := 1) (v := xs 1) rfl rfl rfl (fun _ _ => rfl) rfl rfl (by decide) h0 rfl ?_
  refine lw_ld 635 641 (j := 2) (v := xs 2) rfl rfl rfl (fun _ _ => rfl) rfl rfl (by decide) h0 rfl ?_
  refine am_B.run (hp := false) (sp := []) (pc := 641) (lo := [some (.ref 0), some (.ref 1), some (.ref 53), some (.ref 69), some (.ref 70), some (.int (nI 0)), none, none, none]) (st := [.int (xs 2), .int (xs 1), .ref 1]) (pc' := 642) (lo' := [some (.ref 0), some (.ref 1), some (.ref 53), some (.ref 69), some (.ref 70), some (.int (nI 0)), none, none, none]) (st' := [.ref 69, .int (xs 2), .int (xs 1), .ref 1]) 200 rfl ?_
  refine am_B.callSW (rc := 2) (rs := 400) (M := m_LW_tokens) (n := 4) (as := [.ref 1, .int (xs 1), .int (xs 2), .ref 69]) rfl rfl kw1_tokens kw2_tokens kw3_tokens kw5_LW kw4_tokens (ls_tokensA h X (xs 1) (xs 2) hx) rfl rfl (by exact Nat.le_of_ble_eq_true rfl) rfl rfl rfl (fun v h' z => ?_)
  obtain ⟨rfl, o1⟩ := z
  have M1 : mF h' := M.of o1
  have h01 := (o1.2 0 (by have := M.1; omega) (Or.inl rfl)).trans h0
  refine am_B.run (hp := false) (sp := [647]) (pc := 645) (lo := [some (.ref 0), some (.ref 1), some (.ref 53), some (.ref 69), some (.ref 70), some (.int (nI 0)), none, none, none]) (st := [.int (nI 2)]) (pc' := 647) (lo' := [some (.ref 0), some (.ref 1), some (.ref 53), some (.ref 69), some (.ref 70), some (.int (nI 0)), some (.int (nI 2)), none, none]) (st' := []) 200 rfl ?_
  refine am_B.run (hp := false) (sp := [648]) (pc := 647) (lo := [some (.ref 0), some (.ref 1), some (.ref 53), some (.ref 69), some (.ref 70), some (.int (nI 0)), some (.int (nI 2)), none, none]) (st := []) (pc' := 648) (lo' := [some (.ref 0), some (.ref 1), some (.ref 53), some (.ref 69), some (.ref 70), some (.int (nI 0)), some (.int (nI 2)), none, none]) (st' := [.ref 53]) 200 rfl ?_
  refine lw_ld 648 654 (j := 1) (v := xs 1) rfl rfl rfl (fun _ _ => rfl) rfl rfl (by decide) h01 rfl ?_
  refine lw_ld 654 660 (j := 2) (v := xs 2) rfl rfl rfl (fun _ _ => rfl) rfl rfl (by decide) h01 rfl ?_
  refine am_B.callV (rc := 2) (rs := 400) (ci := 5) (n := 2) (as := [.int (xs 1), .int (xs 2)]) rfl rfl rfl (mc_tokensA _ M1 (xs 1) (xs 2) hx) rfl rfl (by exact Nat.le_of_ble_eq_true rfl) rfl M1.2.1 rfl rfl (fun v h2 z => ?_)
  obtain ⟨rfl, p1, p2, vs, p3, p4⟩ := z
  have h02 := (p2 0 (Or.inl rfl)).trans h01
  refine am_B.run (hp := false) (sp := []) (pc := 663) (lo := [some (.ref 0), some (.ref 1), some (.ref 53), some (.ref 69), some (.ref 70), some (.int (nI 0)), some (.int (nI 2)), none, none]) (st := [_]) (pc' := 666) (lo' := [some (.ref 0), some (.ref 1), some (.ref 53), some (.ref 69), some (.ref 70), some (.int (nI 0)), some (.int (nI 2)), some _, none]) (st' := [.ref 53]) 200 rfl ?_
  refine am_B.callV (rc := 2) (rs := 400) (ci := 5) (n := 0) (as := []) rfl rfl rfl (mc_thrown _ 2 vs p3 p4) rfl rfl (by exact Nat.le_of_ble_eq_true rfl) rfl p3 rfl rfl (fun v h3 z => ?_)
  obtain ⟨rfl, rfl⟩ := z
  refine am_B.run (hp := false) (sp := []) (pc := 669) (lo := [some (.ref 0), some (.ref 1), some (.ref 53), some (.ref 69), some (.ref 70), some (.int (nI 0)), some (.int (nI 2)), some _, none]) (st := [.int (nI 2)]) (pc' := 671) (lo' := [some (.ref 0), some (.ref 1), some (.ref 53), some (.ref 69), some (.ref 70), some (.int (nI 0)), some (.int (nI 2)), some _, none]) (st' := [.int (nI 2), .int (nI 2)]) 200 rfl ?_
  refine am_B.icmp_eq rfl rfl (fun _ => ?_) (fun z => absurd rfl z)
  refine am_B.run (hp := false) (sp := []) (pc := 676) (lo := [some (.ref 0), some (.ref 1), some (.ref 53), some (.ref 69), some (.ref 70), some (.int (nI 0)), some (.int (nI 2)), some _, none]) (st := []) (pc' := 678) (lo' := [some (.ref 0), some (.ref 1), some (.ref 53), some (.ref 69), some (.ref 70), some (.int (nI 0)), some (.int (nI 2)), some _, none]) (st' := [.int (nI 2)]) 200 rfl ?_
  refine am_B.if_ne rfl rfl (fun _ => ?_) (fun z => absurd z (by decide))
  refine am_B.run (hp := false) (sp := [1893]) (pc := 693) (lo := [some (.ref 0), some (.ref 1), some (.ref 53), some (.ref 69), some (.ref 70), some (.int (nI 0)), some (.int (nI 2)), some _, none]) (st := []) (pc' := 1893) (lo' := [some (.ref 0), some (.ref 1), some (.ref 53), some (.ref 69), some (.ref 70), some (.int (nI 0)), some (.int (nI 2)), some _, none]) (st' := []) 200 rfl ?_
  exact lw_up (lc_end nm xs _ h02 _ _ _ _ _)
set_option maxRecDepth 100000 in
set_option maxHeartbeats 4000000 in
theorem lc_tokensB (nm : String) (xs : Nat → Int32) (h : am_H) (X : xF h) (M : mF h) (h0 : h[0]? = some (.inl (99, 5, .inl xs))) (h69 : h[69]? = some (la fun _ => 0)) (h70 : h[70]? = some (da fun _ => 0)) (e1 : xs 1 = (nI 0)) : lB nm 628 [some (.ref 0), some (.ref 1), some (.ref 53), some (.ref 69), some (.ref 70), some (.int (nI 0)), none, none, none] [] h 3 406 := by
  refine lw_sub (rows := r_LW_law_7 ++ (r_LW_law_8)) (am_all_app ok_LW_law_7 (ok_LW_law_8)) ?_
  refine am_B.run (hp := false) (sp := [629]) (pc := 628) (lo := [some (.ref 0), some (.ref 1), some (.ref 53), some (.ref 69), some (.ref 70), some (.int (nI 0)), none, none, none]) (st := []) (pc' := 629) (lo' := [some (.ref 0), some (.ref 1), some (.ref 53), some (.ref 69), some (.ref 70), some (.int (nI 0)), none, none, none]) (st' := [.ref 1]) 200 rfl ?_
  refine lw_ld 629 635 (j := 1) (v := (nI 0)) rfl rfl rfl (fun _ _ => rfl) rfl rfl (by decide) h0 e1 ?_
  refine lw_ld 635 641 (j := 2) (v := xs 2) rfl rfl rfl (fun _ _ => rfl) rfl rfl (by decide) h0 rfl ?_
  refine am_B.run (hp := false) (sp := []) (pc := 641) (lo := [some (.ref 0), some (.ref 1), some (.ref 53), some (.ref 69), some (.ref 70), some (.int (nI 0)), none, none, none]) (st := [.int (xs 2), .int ((nI 0)), .ref 1]) (pc' := 642) (lo' := [some (.ref 0), some (.ref 1), some (.ref 53), some (.ref 69), some (.ref 70), some (.int (nI 0)), none, none, none]) (st' := [.ref 69, .int (xs 2), .int ((nI 0)), .ref 1]) 200 rfl ?_
  refine am_B.callSW (rc := 2) (rs := 400) (M := m_LW_tokens) (n := 4) (as := [.ref 1, .int (nI 0), .int (xs 2), .ref 69]) rfl rfl kw1_tokens kw2_tokens kw3_tokens kw5_LW kw4_tokens (ls_tokensB h X (xs 2)) rfl rfl (by exact Nat.le_of_ble_eq_true rfl) rfl rfl rfl (fun v h' z => ?_)
  obtain ⟨rfl, o1⟩ := z
  have M1 : mF h' := M.of o1
  have h01 := (o1.2 0 (by have := M.1; omega) (Or.inl rfl)).trans h0
  refine am_B.run (hp := false) (sp := [647]) (pc := 645) (lo := [some (.ref 0), some (.ref 1), some (.ref 53), some (.ref 69), some (.ref 70), some (.int (nI 0)), none, none, none]) (st := [.int (nI 2)]) (pc' := 647) (lo' := [some (.ref 0), some (.ref 1), some (.ref 53), some (.ref 69), some (.ref 70), some (.int (nI 0)), some (.int (nI 2)), none, none]) (st' := []) 200 rfl ?_
  refine am_B.run (hp := false) (sp := [648]) (pc := 647) (lo := [some (.ref 0), some (.ref 1), some (.ref 53), some (.ref 69), some (.ref 70), some (.int (nI 0)), some (.int (nI 2)), none, none]) (st := []) (pc' := 648) (lo' := [some (.ref 0), some (.ref 1), some (.ref 53), some (.ref 69), some (.ref 70), some (.int (nI 0)), some (.int (nI 2)), none, none]) (st' := [.ref 53]) 200 rfl ?_
  refine lw_ld 648 654 (j := 1) (v := (nI 0)) rfl rfl rfl (fun _ _ => rfl) rfl rfl (by decide) h01 e1 ?_
  refine lw_ld 654 660 (j := 2) (v := xs 2) rfl rfl rfl (fun _ _ => rfl) rfl rfl (by decide) h01 rfl ?_
  refine am_B.callV (rc := 2) (rs := 400) (ci := 5) (n := 2) (as := [.int (nI 0), .int (xs 2)]) rfl rfl rfl (mc_tokensB _ M1 (xs 2)) rfl rfl (by exact Nat.le_of_ble_eq_true rfl) rfl M1.2.1 rfl rfl (fun v h2 z => ?_)
  obtain ⟨rfl, p1, p2, vs, p3, p4⟩ := z
  have h02 := (p2 0 (Or.inl rfl)).trans h01
  refine am_B.run (hp := false) (sp := []) (pc := 663) (lo := [some (.ref 0), some (.ref 1), some (.ref 53), some (.ref 69), some (.ref 70), some (.int (nI 0)), some (.int (nI 2)), none, none]) (st := [_]) (pc' := 666) (lo' := [some (.ref 0), some (.ref 1), some (.ref 53), some (.ref 69), some (.ref 70), some (.int (nI 0)), some (.int (nI 2)), some _, none]) (st' := [.ref 53]) 200 rfl ?_
  refine am_B.callV (rc := 2) (rs := 400) (ci := 5) (n := 0) (as := []) rfl rfl rfl (mc_thrown _ 2 vs p3 p4) rfl rfl (by exact Nat.le_of_ble_eq_true rfl) rfl p3 rfl rfl (fun v h3 z => ?_)
  obtain ⟨rfl, rfl⟩ := z
  refine am_B.run (hp := false) (sp := []) (pc := 669) (lo := [some (.ref 0), some (.ref 1), some (.ref 53), some (.ref 69), some (.ref 70), some (.int (nI 0)), some (.int (nI 2)), some _, none]) (st := [.int (nI 2)]) (pc' := 671) (lo' := [some (.ref 0), some (.ref 1), some (.ref 53), some (.ref 69), some (.ref 70), some (.int (nI 0)), some (.int (nI 2)), some _, none]) (st' := [.int (nI 2), .int (nI 2)]) 200 rfl ?_
  refine am_B.icmp_eq rfl rfl (fun _ => ?_) (fun z => absurd rfl z)
  refine am_B.run (hp := false) (sp := []) (pc := 676) (lo := [some (.ref 0), some (.ref 1), some (.ref 53), some (.ref 69), some (.ref 70), some (.int (nI 0)), some (.int (nI 2)), some _, none]) (st := []) (pc' := 678) (lo' := [some (.ref 0), some (.ref 1), some (.ref 53), some (.ref 69), some (.ref 70), some (.int (nI 0)), some (.int (nI 2)), some _, none]) (st' := [.int (nI 2)]) 200 rfl ?_
  refine am_B.if_ne rfl rfl (fun _ => ?_) (fun z => absurd z (by decide))
  refine am_B.run (hp := false) (sp := [1893]) (pc := 693) (lo := [some (.ref 0), some (.ref 1), some (.ref 53), some (.ref 69), some (.ref 70), some (.int (nI 0)), some (.int (nI 2)), some _, none]) (st := []) (pc' := 1893) (lo' := [some (.ref 0), some (.ref 1), some (.ref 53), some (.ref 69), some (.ref 70), some (.int (nI 0)), some (.int (nI 2)), some _, none]) (st' := []) 200 rfl ?_
  exact lw_up (lc_end nm xs _ h02 _ _ _ _ _)
set_option maxRecDepth 100000 in
set_option maxHeartbeats 4000000 in
theorem lc_nextA (nm : String) (xs : Nat → Int32) (h : am_H) (X : xF h) (M : mF h) (h0 : h[0]? = some (.inl (99, 5, .inl xs))) (h69 : h[69]? = some (la fun _ => 0)) (h70 : h[70]? = some (da fun _ => 0)) (hx : xbad (xs 1) 1) : lB nm 752 [some (.ref 0), some (.ref 1), some (.ref 53), some (.ref 69), some (.ref 70), some (.int (nI 0)), none, none, none] [] h 3 406 := by
  refine lw_sub (rows := r_LW_law_9 ++ (r_LW_law_10)) (am_all_app ok_LW_law_9 (ok_LW_law_10)) ?_
  refine am_B.run (hp := false) (sp := [753]) (pc := 752) (lo := [some (.ref 0), some (.ref 1), some (.ref 53), some (.ref 69), some (.ref 70), some (.int (nI 0)), none, none, none]) (st := []) (pc' := 753) (lo' := [some (.ref 0), some (.ref 1), some (.ref 53), some (.ref 69), some (.ref 70), some (.int (nI 0)), none, none, none]) (st' := [.ref 1]) 200 rfl ?_
  refine lw_ld 753 759 (j := 1) (v := xs 1) rfl rfl rfl (fun _ _ => rfl) rfl rfl (by decide) h0 rfl ?_
  refine lw_ld 759 765 (j := 2) (v := xs 2) rfl rfl rfl (fun _ _ => rfl) rfl rfl (by decide) h0 rfl ?_
  refine am_B.run (hp := false) (sp := []) (pc := 765) (lo := [some (.ref 0), some (.ref 1), some (.ref 53), some (.ref 69), some (.ref 70), some (.int (nI 0)), none, none, none]) (st := [.int (xs 2), .int (xs 1), .ref 1]) (pc' := 766) (lo' := [some (.ref 0), some (.ref 1), some (.ref 53), some (.ref 69), some (.ref 70), some (.int (nI 0)), none, none, none]) (st' := [.ref 69, .int (xs 2), .int (xs 1), .ref 1]) 200 rfl ?_
  refine am_B.callSW (rc := 2) (rs := 400) (M := m_LW_next) (n := 4) (as := [.ref 1, .int (xs 1), .int (xs 2), .ref 69]) rfl rfl kw1_next kw2_next kw3_next kw5_LW kw4_next (ls_nextA h X (xs 1) (xs 2) hx) rfl rfl (by exact Nat.le_of_ble_eq_true rfl) rfl rfl rfl (fun v h' z => ?_)
  obtain ⟨rfl, o1⟩ := z
  have M1 : mF h' := M.of o1
  have h01 := (o1.2 0 (by have := M.1; omega) (Or.inl rfl)).trans h0
  refine am_B.run (hp := false) (sp := [771]) (pc := 769) (lo := [some (.ref 0), some (.ref 1), some (.ref 53), some (.ref 69), some (.ref 70), some (.int (nI 0)), none, none, none]) (st := [.int (nI 2)]) (pc' := 771) (lo' := [some (.ref 0), some (.ref 1), some (.ref 53), some (.ref 69), some (.ref 70), some (.int (nI 0)), some (.int (nI 2)), none, none]) (st' := []) 200 rfl ?_
  refine am_B.run (hp := false) (sp := [772]) (pc := 771) (lo := [some (.ref 0), some (.ref 1), some (.ref 53), some (.ref 69), some (.ref 70), some (.int (nI 0)), some (.int (nI 2)), none, none]) (st := []) (pc' := 772) (lo' := [some (.ref 0), some (.ref 1), some (.ref 53), some (.ref 69), some (.ref 70), some (.int (nI 0)), some (.int (nI 2)), none, none]) (st' := [.ref 53]) 200 rfl ?_
  refine lw_ld 772 778 (j := 1) (v := xs 1) rfl rfl rfl (fun _ _ => rfl) rfl rfl (by decide) h01 rfl ?_
  refine lw_ld 778 784 (j := 2) (v := xs 2) rfl rfl rfl (fun _ _ => rfl) rfl rfl (by decide) h01 rfl ?_
  refine am_B.callV (rc := 2) (rs := 400) (ci := 5) (n := 2) (as := [.int (xs 1), .int (xs 2)]) rfl rfl rfl (mc_nextA _ M1 (xs 1) (xs 2) hx) rfl rfl (by exact Nat.le_of_ble_eq_true rfl) rfl M1.2.1 rfl rfl (fun v h2 z => ?_)
  obtain ⟨rfl, p1, p2, vs, p3, p4⟩ := z
  have h02 := (p2 0 (Or.inl rfl)).trans h01
  refine am_B.run (hp := false) (sp := []) (pc := 787) (lo := [some (.ref 0), some (.ref 1), some (.ref 53), some (.ref 69), some (.ref 70), some (.int (nI 0)), some (.int (nI 2)), none, none]) (st := [_]) (pc' := 790) (lo' := [some (.ref 0), some (.ref 1), some (.ref 53), some (.ref 69), some (.ref 70), some (.int (nI 0)), some (.int (nI 2)), some _, none]) (st' := [.ref 53]) 200 rfl ?_
  refine am_B.callV (rc := 2) (rs := 400) (ci := 5) (n := 0) (as := []) rfl rfl rfl (mc_thrown _ 2 vs p3 p4) rfl rfl (by exact Nat.le_of_ble_eq_true rfl) rfl p3 rfl rfl (fun v h3 z => ?_)
  obtain ⟨rfl, rfl⟩ := z
  refine am_B.run (hp := false) (sp := []) (pc := 793) (lo := [some (.ref 0), some (.ref 1), some (.ref 53), some (.ref 69), some (.ref 70), some (.int (nI 0)), some (.int (nI 2)), some _, none]) (st := [.int (nI 2)]) (pc' := 795) (lo' := [some (.ref 0), some (.ref 1), some (.ref 53), some (.ref 69), some (.ref 70), some (.int (nI 0)), some (.int (nI 2)), some _, none]) (st' := [.int (nI 2), .int (nI 2)]) 200 rfl ?_
  refine am_B.icmp_eq rfl rfl (fun _ => ?_) (fun z => absurd rfl z)
  refine am_B.run (hp := false) (sp := []) (pc := 800) (lo := [some (.ref 0), some (.ref 1), some (.ref 53), some (.ref 69), some (.ref 70), some (.int (nI 0)), some (.int (nI 2)), some _, none]) (st := []) (pc' := 802) (lo' := [some (.ref 0), some (.ref 1), some (.ref 53), some (.ref 69), some (.ref 70), some (.int (nI 0)), some (.int (nI 2)), some _, none]) (st' := [.int (nI 2)]) 200 rfl ?_
  refine am_B.if_ne rfl rfl (fun _ => ?_) (fun z => absurd z (by decide))
  refine am_B.run (hp := false) (sp := [1893]) (pc := 817) (lo := [some (.ref 0), some (.ref 1), some (.ref 53), some (.ref 69), some (.ref 70), some (.int (nI 0)), some (.int (nI 2)), some _, none]) (st := []) (pc' := 1893) (lo' := [some (.ref 0), some (.ref 1), some (.ref 53), some (.ref 69), some (.ref 70), some (.int (nI 0)), some (.int (nI 2)), some _, none]) (st' := []) 200 rfl ?_
  exact lw_up (lc_end nm xs _ h02 _ _ _ _ _)
set_option maxRecDepth 100000 in
set_option maxHeartbeats 4000000 in
theorem lc_nextB (nm : String) (xs : Nat → Int32) (h : am_H) (X : xF h) (M : mF h) (h0 : h[0]? = some (.inl (99, 5, .inl xs))) (h69 : h[69]? = some (la fun _ => 0)) (h70 : h[70]? = some (da fun _ => 0)) (e1 : xs 1 = (nI 0)) : lB nm 752 [some (.ref 0), some (.ref 1), some (.ref 53), some (.ref 69), some (.ref 70), some (.int (nI 0)), none, none, none] [] h 3 406 := by
  refine lw_sub (rows := r_LW_law_9 ++ (r_LW_law_10)) (am_all_app ok_LW_law_9 (ok_LW_law_10)) ?_
  refine am_B.run (hp := false) (sp := [753]) (pc := 752) (lo := [some (.ref 0), some (.ref 1), some (.ref 53), some (.ref 69), some (.ref 70), some (.int (nI 0)), none, none, none]) (st := []) (pc' := 753) (lo' := [some (.ref 0), some (.ref 1), some (.ref 53), some (.ref 69), some (.ref 70), some (.int (nI 0)), none, none, none]) (st' := [.ref 1]) 200 rfl ?_
  refine lw_ld 753 759 (j := 1) (v := (nI 0)) rfl rfl rfl (fun _ _ => rfl) rfl rfl (by decide) h0 e1 ?_
  refine lw_ld 759 765 (j := 2) (v := xs 2) rfl rfl rfl (fun _ _ => rfl) rfl rfl (by decide) h0 rfl ?_
  refine am_B.run (hp := false) (sp := []) (pc := 765) (lo := [some (.ref 0), some (.ref 1), some (.ref 53), some (.ref 69), some (.ref 70), some (.int (nI 0)), none, none, none]) (st := [.int (xs 2), .int ((nI 0)), .ref 1]) (pc' := 766) (lo' := [some (.ref 0), some (.ref 1), some (.ref 53), some (.ref 69), some (.ref 70), some (.int (nI 0)), none, none, none]) (st' := [.ref 69, .int (xs 2), .int ((nI 0)), .ref 1]) 200 rfl ?_
  refine am_B.callSW (rc := 2) (rs := 400) (M := m_LW_next) (n := 4) (as := [.ref 1, .int (nI 0), .int (xs 2), .ref 69]) rfl rfl kw1_next kw2_next kw3_next kw5_LW kw4_next (ls_nextB h X (xs 2)) rfl rfl (by exact Nat.le_of_ble_eq_true rfl) rfl rfl rfl (fun v h' z => ?_)
  obtain ⟨rfl, o1⟩ := z
  have M1 : mF h' := M.of o1
  have h01 := (o1.2 0 (by have := M.1; omega) (Or.inl rfl)).trans h0
  refine am_B.run (hp := false) (sp := [771]) (pc := 769) (lo := [some (.ref 0), some (.ref 1), some (.ref 53), some (.ref 69), some (.ref 70), some (.int (nI 0)), none, none, none]) (st := [.int (nI 2)]) (pc' := 771) (lo' := [some (.ref 0), some (.ref 1), some (.ref 53), some (.ref 69), some (.ref 70), some (.int (nI 0)), some (.int (nI 2)), none, none]) (st' := []) 200 rfl ?_
  refine am_B.run (hp := false) (sp := [772]) (pc := 771) (lo := [some (.ref 0), some (.ref 1), some (.ref 53), some (.ref 69), some (.ref 70), some (.int (nI 0)), some (.int (nI 2)), none, none]) (st := []) (pc' := 772) (lo' := [some (.ref 0), some (.ref 1), some (.ref 53), some (.ref 69), some (.ref 70), some (.int (nI 0)), some (.int (nI 2)), none, none]) (st' := [.ref 53]) 200 rfl ?_
  refine lw_ld 772 778 (j := 1) (v := (nI 0)) rfl rfl rfl (fun _ _ => rfl) rfl rfl (by decide) h01 e1 ?_
  refine lw_ld 778 784 (j := 2) (v := xs 2) rfl rfl rfl (fun _ _ => rfl) rfl rfl (by decide) h01 rfl ?_
  refine am_B.callV (rc := 2) (rs := 400) (ci := 5) (n := 2) (as := [.int (nI 0), .int (xs 2)]) rfl rfl rfl (mc_nextB _ M1 (xs 2)) rfl rfl (by exact Nat.le_of_ble_eq_true rfl) rfl M1.2.1 rfl rfl (fun v h2 z => ?_)
  obtain ⟨rfl, p1, p2, vs, p3, p4⟩ := z
  have h02 := (p2 0 (Or.inl rfl)).trans h01
  refine am_B.run (hp := false) (sp := []) (pc := 787) (lo := [some (.ref 0), some (.ref 1), some (.ref 53), some (.ref 69), some (.ref 70), some (.int (nI 0)), some (.int (nI 2)), none, none]) (st := [_]) (pc' := 790) (lo' := [some (.ref 0), some (.ref 1), some (.ref 53), some (.ref 69), some (.ref 70), some (.int (nI 0)), some (.int (nI 2)), some _, none]) (st' := [.ref 53]) 200 rfl ?_
  refine am_B.callV (rc := 2) (rs := 400) (ci := 5) (n := 0) (as := []) rfl rfl rfl (mc_thrown _ 2 vs p3 p4) rfl rfl (by exact Nat.le_of_ble_eq_true rfl) rfl p3 rfl rfl (fun v h3 z => ?_)
  obtain ⟨rfl, rfl⟩ := z
  refine am_B.run (hp := false) (sp := []) (pc := 793) (lo := [some (.ref 0), some (.ref 1), some (.ref 53), some (.ref 69), some (.ref 70), some (.int (nI 0)), some (.int (nI 2)), some _, none]) (st := [.int (nI 2)]) (pc' := 795) (lo' := [some (.ref 0), some (.ref 1), some (.ref 53), some (.ref 69), some (.ref 70), some (.int (nI 0)), some (.int (nI 2)), some _, none]) (st' := [.int (nI 2), .int (nI 2)]) 200 rfl ?_
  refine am_B.icmp_eq rfl rfl (fun _ => ?_) (fun z => absurd rfl z)
  refine am_B.run (hp := false) (sp := []) (pc := 800) (lo := [some (.ref 0), some (.ref 1), some (.ref 53), some (.ref 69), some (.ref 70), some (.int (nI 0)), some (.int (nI 2)), some _, none]) (st := []) (pc' := 802) (lo' := [some (.ref 0), some (.ref 1), some (.ref 53), some (.ref 69), some (.ref 70), some (.int (nI 0)), some (.int (nI 2)), some _, none]) (st' := [.int (nI 2)]) 200 rfl ?_
  refine am_B.if_ne rfl rfl (fun _ => ?_) (fun z => absurd z (by decide))
  refine am_B.run (hp := false) (sp := [1893]) (pc := 817) (lo := [some (.ref 0), some (.ref 1), some (.ref 53), some (.ref 69), some (.ref 70), some (.int (nI 0)), some (.int (nI 2)), some _, none]) (st := []) (pc' := 1893) (lo' := [some (.ref 0), some (.ref 1), some (.ref 53), some (.ref 69), some (.ref 70), some (.int (nI 0)), some (.int (nI 2)), some _, none]) (st' := []) 200 rfl ?_
  exact lw_up (lc_end nm xs _ h02 _ _ _ _ _)
set_option maxRecDepth 100000 in
set_option maxHeartbeats 4000000 in
theorem lc_enabledB (nm : String) (xs : Nat → Int32) (h : am_H) (X : xF h) (M : mF h) (h0 : h[0]? = some (.inl (99, 5, .inl xs))) (h69 : h[69]? = some (la fun _ => 0)) (h70 : h[70]? = some (da fun _ => 0)) (hx : xbad (xs 1) 1) : lB nm 696 [some (.ref 0), some (.ref 1), some (.ref 53), some (.ref 69), some (.ref 70), some (.int (nI 0)), none, none, none] [] h 3 406 := by
  refine lw_sub (rows := r_LW_law_8 ++ (r_LW_law_9)) (am_all_app ok_LW_law_8 (ok_LW_law_9)) ?_
  refine am_B.run (hp := false) (sp := [697]) (pc := 696) (lo := [some (.ref 0), some (.ref 1), some (.ref 53), some (.ref 69), some (.ref 70), some (.int (nI 0)), none, none, none]) (st := []) (pc' := 697) (lo' := [some (.ref 0), some (.ref 1), some (.ref 53), some (.ref 69), some (.ref 70), some (.int (nI 0)), none, none, none]) (st' := [.ref 1]) 200 rfl ?_
  refine lw_ld 697 703 (j := 1) (v := xs 1) rfl rfl rfl (fun _ _ => rfl) rfl rfl (by decide) h0 rfl ?_
  refine am_B.run (hp := false) (sp := []) (pc := 703) (lo := [some (.ref 0), some (.ref 1), some (.ref 53), some (.ref 69), some (.ref 70), some (.int (nI 0)), none, none, none]) (st := [.int (xs 1), .ref 1]) (pc' := 704) (lo' := [some (.ref 0), some (.ref 1), some (.ref 53), some (.ref 69), some (.ref 70), some (.int (nI 0)), none, none, none]) (st' := [.ref 69, .int (xs 1), .ref 1]) 200 rfl ?_
  refine am_B.callSW (rc := 2) (rs := 400) (M := m_LW_enabled) (n := 3) (as := [.ref 1, .int (xs 1), .ref 69]) rfl rfl kw1_enabled kw2_enabled kw3_enabled kw5_LW kw4_enabled (ls_enabledB h X (xs 1) hx) rfl rfl (by exact Nat.le_of_ble_eq_true rfl) rfl rfl rfl (fun v h' z => ?_)
  obtain ⟨rfl, o1⟩ := z
  have M1 : mF h' := M.of o1
  have h01 := (o1.2 0 (by have := M.1; omega) (Or.inl rfl)).trans h0
  refine am_B.run (hp := false) (sp := [709]) (pc := 707) (lo := [some (.ref 0), some (.ref 1), some (.ref 53), some (.ref 69), some (.ref 70), some (.int (nI 0)), none, none, none]) (st := [.int (nI 2)]) (pc' := 709) (lo' := [some (.ref 0), some (.ref 1), some (.ref 53), some (.ref 69), some (.ref 70), some (.int (nI 0)), some (.int (nI 2)), none, none]) (st' := []) 200 rfl ?_
  refine am_B.run (hp := false) (sp := [710]) (pc := 709) (lo := [some (.ref 0), some (.ref 1), some (.ref 53), some (.ref 69), some (.ref 70), some (.int (nI 0)), some (.int (nI 2)), none, none]) (st := []) (pc' := 710) (lo' := [some (.ref 0), some (.ref 1), some (.ref 53), some (.ref 69), some (.ref 70), some (.int (nI 0)), some (.int (nI 2)), none, none]) (st' := [.ref 53]) 200 rfl ?_
  refine lw_ld 710 716 (j := 1) (v := xs 1) rfl rfl rfl (fun _ _ => rfl) rfl rfl (by decide) h01 rfl ?_
  refine am_B.callV (rc := 2) (rs := 400) (ci := 5) (n := 1) (as := [.int (xs 1)]) rfl rfl rfl (mc_enabledA _ M1 (xs 1) hx) rfl rfl (by exact Nat.le_of_ble_eq_true rfl) rfl M1.2.1 rfl rfl (fun v h2 z => ?_)
  obtain ⟨rfl, p1, p2, vs, p3, p4⟩ := z
  have h02 := (p2 0 (Or.inl rfl)).trans h01
  refine am_B.run (hp := false) (sp := []) (pc := 719) (lo := [some (.ref 0), some (.ref 1), some (.ref 53), some (.ref 69), some (.ref 70), some (.int (nI 0)), some (.int (nI 2)), none, none]) (st := [_]) (pc' := 722) (lo' := [some (.ref 0), some (.ref 1), some (.ref 53), some (.ref 69), some (.ref 70), some (.int (nI 0)), some (.int (nI 2)), some _, none]) (st' := [.ref 53]) 200 rfl ?_
  refine am_B.callV (rc := 2) (rs := 400) (ci := 5) (n := 0) (as := []) rfl rfl rfl (mc_thrown _ 2 vs p3 p4) rfl rfl (by exact Nat.le_of_ble_eq_true rfl) rfl p3 rfl rfl (fun v h3 z => ?_)
  obtain ⟨rfl, rfl⟩ := z
  refine am_B.run (hp := false) (sp := []) (pc := 725) (lo := [some (.ref 0), some (.ref 1), some (.ref 53), some (.ref 69), some (.ref 70), some (.int (nI 0)), some (.int (nI 2)), some _, none]) (st := [.int (nI 2)]) (pc' := 727) (lo' := [some (.ref 0), some (.ref 1), some (.ref 53), some (.ref 69), some (.ref 70), some (.int (nI 0)), some (.int (nI 2)), some _, none]) (st' := [.int (nI 2), .int (nI 2)]) 200 rfl ?_
  refine am_B.icmp_eq rfl rfl (fun _ => ?_) (fun z => absurd rfl z)
  refine am_B.run (hp := false) (sp := []) (pc := 732) (lo := [some (.ref 0), some (.ref 1), some (.ref 53), some (.ref 69), some (.ref 70), some (.int (nI 0)), some (.int (nI 2)), some _, none]) (st := []) (pc' := 734) (lo' := [some (.ref 0), some (.ref 1), some (.ref 53), some (.ref 69), some (.ref 70), some (.int (nI 0)), some (.int (nI 2)), some _, none]) (st' := [.int (nI 2)]) 200 rfl ?_
  refine am_B.if_ne rfl rfl (fun _ => ?_) (fun z => absurd z (by decide))
  refine am_B.run (hp := false) (sp := [1893]) (pc := 749) (lo := [some (.ref 0), some (.ref 1), some (.ref 53), some (.ref 69), some (.ref 70), some (.int (nI 0)), some (.int (nI 2)), some _, none]) (st := []) (pc' := 1893) (lo' := [some (.ref 0), some (.ref 1), some (.ref 53), some (.ref 69), some (.ref 70), some (.int (nI 0)), some (.int (nI 2)), some _, none]) (st' := []) 200 rfl ?_
  exact lw_up (lc_end nm xs _ h02 _ _ _ _ _)
set_option maxRecDepth 100000 in
set_option maxHeartbeats 4000000 in
theorem lc_enabled (nm : String) (xs : Nat → Int32) (h : am_H) (X : xF h) (M : mF h) (h0 : h[0]? = some (.inl (99, 5, .inl xs))) (h69 : h[69]? = some (la fun _ => 0)) (h70 : h[70]? = some (da fun _ => 0)) (e1 : xs 1 = (nI 0)) : lB nm 696 [some (.ref 0), some (.ref 1), some (.ref 53), some (.ref 69), some (.ref 70), some (.int (nI 0)), none, none, none] [] h 3 406 := by
  refine lw_sub (rows := r_LW_law_8 ++ (r_LW_law_9)) (am_all_app ok_LW_law_8 (ok_LW_law_9)) ?_
  refine am_B.run (hp := false) (sp := [697]) (pc := 696) (lo := [some (.ref 0), some (.ref 1), some (.ref 53), some (.ref 69), some (.ref 70), some (.int (nI 0)), none, none, none]) (st := []) (pc' := 697) (lo' := [some (.ref 0), some (.ref 1), some (.ref 53), some (.ref 69), some (.ref 70), some (.int (nI 0)), none, none, none]) (st' := [.ref 1]) 200 rfl ?_
  refine lw_ld 697 703 (j := 1) (v := (nI 0)) rfl rfl rfl (fun _ _ => rfl) rfl rfl (by decide) h0 e1 ?_
  refine am_B.run (hp := false) (sp := []) (pc := 703) (lo := [some (.ref 0), some (.ref 1), some (.ref 53), some (.ref 69), some (.ref 70), some (.int (nI 0)), none, none, none]) (st := [.int ((nI 0)), .ref 1]) (pc' := 704) (lo' := [some (.ref 0), some (.ref 1), some (.ref 53), some (.ref 69), some (.ref 70), some (.int (nI 0)), none, none, none]) (st' := [.ref 69, .int ((nI 0)), .ref 1]) 200 rfl ?_
  refine am_B.callSW (rc := 2) (rs := 400) (M := m_LW_enabled) (n := 3) (as := [.ref 1, .int (nI 0), .ref 69]) rfl rfl kw1_enabled kw2_enabled kw3_enabled kw5_LW kw4_enabled (ls_enabled h X (fun _ => 0) h69) rfl rfl (by exact Nat.le_of_ble_eq_true rfl) rfl rfl rfl (fun v h' z => ?_)
  obtain ⟨rfl, o1, g, hg, hg0⟩ := z
  have M1 : mF h' := M.of o1
  have h01 := (o1.2 0 (by have := M.1; omega) (Or.inl rfl)).trans h0
  refine am_B.run (hp := false) (sp := [709]) (pc := 707) (lo := [some (.ref 0), some (.ref 1), some (.ref 53), some (.ref 69), some (.ref 70), some (.int (nI 0)), none, none, none]) (st := [.int (nI 0)]) (pc' := 709) (lo' := [some (.ref 0), some (.ref 1), some (.ref 53), some (.ref 69), some (.ref 70), some (.int (nI 0)), some (.int (nI 0)), none, none]) (st' := []) 200 rfl ?_
  refine am_B.run (hp := false) (sp := [710]) (pc := 709) (lo := [some (.ref 0), some (.ref 1), some (.ref 53), some (.ref 69), some (.ref 70), some (.int (nI 0)), some (.int (nI 0)), none, none]) (st := []) (pc' := 710) (lo' := [some (.ref 0), some (.ref 1), some (.ref 53), some (.ref 69), some (.ref 70), some (.int (nI 0)), some (.int (nI 0)), none, none]) (st' := [.ref 53]) 200 rfl ?_
  refine lw_ld 710 716 (j := 1) (v := (nI 0)) rfl rfl rfl (fun _ _ => rfl) rfl rfl (by decide) h01 e1 ?_
  refine am_B.callV (rc := 2) (rs := 400) (ci := 5) (n := 1) (as := [.int (nI 0)]) rfl rfl rfl (mc_enabled _ M1) rfl rfl (by exact Nat.le_of_ble_eq_true rfl) rfl M1.2.1 rfl rfl (fun v h2 z => ?_)
  obtain ⟨rfl, p1, p2, vs, p3, p4⟩ := z
  have h02 := (p2 0 (Or.inl rfl)).trans h01
  refine am_B.run (hp := false) (sp := []) (pc := 719) (lo := [some (.ref 0), some (.ref 1), some (.ref 53), some (.ref 69), some (.ref 70), some (.int (nI 0)), some (.int (nI 0)), none, none]) (st := [_]) (pc' := 722) (lo' := [some (.ref 0), some (.ref 1), some (.ref 53), some (.ref 69), some (.ref 70), some (.int (nI 0)), some (.int (nI 0)), some _, none]) (st' := [.ref 53]) 200 rfl ?_
  refine am_B.callV (rc := 2) (rs := 400) (ci := 5) (n := 0) (as := []) rfl rfl rfl (mc_thrown _ 0 vs p3 p4) rfl rfl (by exact Nat.le_of_ble_eq_true rfl) rfl p3 rfl rfl (fun v h3 z => ?_)
  obtain ⟨rfl, rfl⟩ := z
  refine am_B.run (hp := false) (sp := []) (pc := 725) (lo := [some (.ref 0), some (.ref 1), some (.ref 53), some (.ref 69), some (.ref 70), some (.int (nI 0)), some (.int (nI 0)), some _, none]) (st := [.int (nI 0)]) (pc' := 727) (lo' := [some (.ref 0), some (.ref 1), some (.ref 53), some (.ref 69), some (.ref 70), some (.int (nI 0)), some (.int (nI 0)), some _, none]) (st' := [.int (nI 0), .int (nI 0)]) 200 rfl ?_
  refine am_B.icmp_eq rfl rfl (fun _ => ?_) (fun z => absurd rfl z)
  refine am_B.run (hp := false) (sp := []) (pc := 732) (lo := [some (.ref 0), some (.ref 1), some (.ref 53), some (.ref 69), some (.ref 70), some (.int (nI 0)), some (.int (nI 0)), some _, none]) (st := []) (pc' := 734) (lo' := [some (.ref 0), some (.ref 1), some (.ref 53), some (.ref 69), some (.ref 70), some (.int (nI 0)), some (.int (nI 0)), some _, none]) (st' := [.int (nI 0)]) 200 rfl ?_
  refine am_B.if_ne rfl rfl (fun z => absurd rfl z) (fun _ => ?_)
  refine am_B.run (hp := false) (sp := []) (pc := 737) (lo := [some (.ref 0), some (.ref 1), some (.ref 53), some (.ref 69), some (.ref 70), some (.int (nI 0)), some (.int (nI 0)), some _, none]) (st := []) (pc' := 739) (lo' := [some (.ref 0), some (.ref 1), some (.ref 53), some (.ref 69), some (.ref 70), some (.int (nI 0)), some (.int (nI 0)), some _, none]) (st' := [.int (nI 0), .ref 69]) 200 rfl ?_
  refine am_B.ald rfl ((p2 69 (by decide)).trans hg) (vp_n (show 0 < 1 by decide) rfl) rfl ?_
  rw [nI_clamp (show 0 < 2 ^ 31 by decide), hg0]
  refine am_B.run (hp := false) (sp := []) 200 rfl ?_
  refine am_B.if_eq rfl rfl (fun _ => ?_) (fun z => absurd (by first | decide | rfl | decide +kernel) z)
  refine am_B.run (hp := false) (sp := [1893]) 200 rfl ?_
  exact lw_up (lc_end nm xs _ h02 _ _ _ _ _)
set_option maxRecDepth 100000 in
set_option maxHeartbeats 4000000 in
theorem lc_awayB (nm : String) (xs : Nat → Int32) (h : am_H) (X : xF h) (M : mF h) (h0 : h[0]? = some (.inl (99, 5, .inl xs))) (h69 : h[69]? = some (la fun _ => 0)) (h70 : h[70]? = some (da fun _ => 0)) (hx : xbad (xs 1) 1) : lB nm 952 [some (.ref 0), some (.ref 1), some (.ref 53), some (.ref 69), some (.ref 70), some (.int (nI 0)), none, none, none] [] h 3 406 := by
  refine lw_sub (rows := r_LW_law_12 ++ (r_LW_law_13)) (am_all_app ok_LW_law_12 (ok_LW_law_13)) ?_
  refine am_B.run (hp := false) (sp := [953]) (pc := 952) (lo := [some (.ref 0), some (.ref 1), some (.ref 53), some (.ref 69), some (.ref 70), some (.int (nI 0)), none, none, none]) (st := []) (pc' := 953) (lo' := [some (.ref 0), some (.ref 1), some (.ref 53), some (.ref 69), some (.ref 70), some (.int (nI 0)), none, none, none]) (st' := [.ref 1]) 200 rfl ?_
  refine lw_ld 953 959 (j := 1) (v := xs 1) rfl rfl rfl (fun _ _ => rfl) rfl rfl (by decide) h0 rfl ?_
  refine am_B.run (hp := false) (sp := []) (pc := 959) (lo := [some (.ref 0), some (.ref 1), some (.ref 53), some (.ref 69), some (.ref 70), some (.int (nI 0)), none, none, none]) (st := [.int (xs 1), .ref 1]) (pc' := 960) (lo' := [some (.ref 0), some (.ref 1), some (.ref 53), some (.ref 69), some (.ref 70), some (.int (nI 0)), none, none, none]) (st' := [.ref 69, .int (xs 1), .ref 1]) 200 rfl ?_
  refine am_B.callSW (rc := 2) (rs := 400) (M := m_LW_away) (n := 3) (as := [.ref 1, .int (xs 1), .ref 69]) rfl rfl kw1_away kw2_away kw3_away kw5_LW kw4_away (ls_awayB h X (xs 1) hx) rfl rfl (by exact Nat.le_of_ble_eq_true rfl) rfl rfl rfl (fun v h' z => ?_)
  obtain ⟨rfl, o1⟩ := z
  have M1 : mF h' := M.of o1
  have h01 := (o1.2 0 (by have := M.1; omega) (Or.inl rfl)).trans h0
  refine am_B.run (hp := false) (sp := [965]) (pc := 963) (lo := [some (.ref 0), some (.ref 1), some (.ref 53), some (.ref 69), some (.ref 70), some (.int (nI 0)), none, none, none]) (st := [.int (nI 2)]) (pc' := 965) (lo' := [some (.ref 0), some (.ref 1), some (.ref 53), some (.ref 69), some (.ref 70), some (.int (nI 0)), some (.int (nI 2)), none, none]) (st' := []) 200 rfl ?_
  refine am_B.run (hp := false) (sp := [966]) (pc := 965) (lo := [some (.ref 0), some (.ref 1), some (.ref 53), some (.ref 69), some (.ref 70), some (.int (nI 0)), some (.int (nI 2)), none, none]) (st := []) (pc' := 966) (lo' := [some (.ref 0), some (.ref 1), some (.ref 53), some (.ref 69), some (.ref 70), some (.int (nI 0)), some (.int (nI 2)), none, none]) (st' := [.ref 53]) 200 rfl ?_
  refine lw_ld 966 972 (j := 1) (v := xs 1) rfl rfl rfl (fun _ _ => rfl) rfl rfl (by decide) h01 rfl ?_
  refine am_B.callV (rc := 1) (rs := 200) (ci := 5) (n := 1) (as := [.int (xs 1)]) rfl rfl rfl (mc_awayA _ M1 (xs 1) hx) rfl rfl (by exact Nat.le_of_ble_eq_true rfl) rfl M1.2.1 rfl rfl (fun v h2 z => ?_)
  obtain ⟨rfl, p1, p2, vs, p3, p4⟩ := z
  have h02 := (p2 0 (Or.inl rfl)).trans h01
  refine am_B.run (hp := false) (sp := []) (pc := 975) (lo := [some (.ref 0), some (.ref 1), some (.ref 53), some (.ref 69), some (.ref 70), some (.int (nI 0)), some (.int (nI 2)), none, none]) (st := [_]) (pc' := 978) (lo' := [some (.ref 0), some (.ref 1), some (.ref 53), some (.ref 69), some (.ref 70), some (.int (nI 0)), some (.int (nI 2)), some _, none]) (st' := [.ref 53]) 200 rfl ?_
  refine am_B.callV (rc := 1) (rs := 200) (ci := 5) (n := 0) (as := []) rfl rfl rfl (mc_thrown _ 2 vs p3 p4) rfl rfl (by exact Nat.le_of_ble_eq_true rfl) rfl p3 rfl rfl (fun v h3 z => ?_)
  obtain ⟨rfl, rfl⟩ := z
  refine am_B.run (hp := false) (sp := []) (pc := 981) (lo := [some (.ref 0), some (.ref 1), some (.ref 53), some (.ref 69), some (.ref 70), some (.int (nI 0)), some (.int (nI 2)), some _, none]) (st := [.int (nI 2)]) (pc' := 983) (lo' := [some (.ref 0), some (.ref 1), some (.ref 53), some (.ref 69), some (.ref 70), some (.int (nI 0)), some (.int (nI 2)), some _, none]) (st' := [.int (nI 2), .int (nI 2)]) 200 rfl ?_
  refine am_B.icmp_eq rfl rfl (fun _ => ?_) (fun z => absurd rfl z)
  refine am_B.run (hp := false) (sp := []) (pc := 988) (lo := [some (.ref 0), some (.ref 1), some (.ref 53), some (.ref 69), some (.ref 70), some (.int (nI 0)), some (.int (nI 2)), some _, none]) (st := []) (pc' := 990) (lo' := [some (.ref 0), some (.ref 1), some (.ref 53), some (.ref 69), some (.ref 70), some (.int (nI 0)), some (.int (nI 2)), some _, none]) (st' := [.int (nI 2)]) 200 rfl ?_
  refine am_B.if_ne rfl rfl (fun _ => ?_) (fun z => absurd z (by decide))
  refine am_B.run (hp := false) (sp := [1893]) (pc := 1005) (lo := [some (.ref 0), some (.ref 1), some (.ref 53), some (.ref 69), some (.ref 70), some (.int (nI 0)), some (.int (nI 2)), some _, none]) (st := []) (pc' := 1893) (lo' := [some (.ref 0), some (.ref 1), some (.ref 53), some (.ref 69), some (.ref 70), some (.int (nI 0)), some (.int (nI 2)), some _, none]) (st' := []) 200 rfl ?_
  exact lw_up (lc_end nm xs _ h02 _ _ _ _ _)
set_option maxRecDepth 100000 in
set_option maxHeartbeats 4000000 in
theorem lc_away (nm : String) (xs : Nat → Int32) (h : am_H) (X : xF h) (M : mF h) (h0 : h[0]? = some (.inl (99, 5, .inl xs))) (h69 : h[69]? = some (la fun _ => 0)) (h70 : h[70]? = some (da fun _ => 0)) (e1 : xs 1 = (nI 0)) : lB nm 952 [some (.ref 0), some (.ref 1), some (.ref 53), some (.ref 69), some (.ref 70), some (.int (nI 0)), none, none, none] [] h 3 406 := by
  refine lw_sub (rows := r_LW_law_12 ++ (r_LW_law_13)) (am_all_app ok_LW_law_12 (ok_LW_law_13)) ?_
  refine am_B.run (hp := false) (sp := [953]) (pc := 952) (lo := [some (.ref 0), some (.ref 1), some (.ref 53), some (.ref 69), some (.ref 70), some (.int (nI 0)), none, none, none]) (st := []) (pc' := 953) (lo' := [some (.ref 0), some (.ref 1), some (.ref 53), some (.ref 69), some (.ref 70), some (.int (nI 0)), none, none, none]) (st' := [.ref 1]) 200 rfl ?_
  refine lw_ld 953 959 (j := 1) (v := (nI 0)) rfl rfl rfl (fun _ _ => rfl) rfl rfl (by decide) h0 e1 ?_
  refine am_B.run (hp := false) (sp := []) (pc := 959) (lo := [some (.ref 0), some (.ref 1), some (.ref 53), some (.ref 69), some (.ref 70), some (.int (nI 0)), none, none, none]) (st := [.int ((nI 0)), .ref 1]) (pc' := 960) (lo' := [some (.ref 0), some (.ref 1), some (.ref 53), some (.ref 69), some (.ref 70), some (.int (nI 0)), none, none, none]) (st' := [.ref 69, .int ((nI 0)), .ref 1]) 200 rfl ?_
  refine am_B.callSW (rc := 2) (rs := 400) (M := m_LW_away) (n := 3) (as := [.ref 1, .int (nI 0), .ref 69]) rfl rfl kw1_away kw2_away kw3_away kw5_LW kw4_away (ls_away h X (fun _ => 0) h69) rfl rfl (by exact Nat.le_of_ble_eq_true rfl) rfl rfl rfl (fun v h' z => ?_)
  obtain ⟨rfl, o1, g, hg, hg0⟩ := z
  have M1 : mF h' := M.of o1
  have h01 := (o1.2 0 (by have := M.1; omega) (Or.inl rfl)).trans h0
  refine am_B.run (hp := false) (sp := [965]) (pc := 963) (lo := [some (.ref 0), some (.ref 1), some (.ref 53), some (.ref 69), some (.ref 70), some (.int (nI 0)), none, none, none]) (st := [.int (nI 0)]) (pc' := 965) (lo' := [some (.ref 0), some (.ref 1), some (.ref 53), some (.ref 69), some (.ref 70), some (.int (nI 0)), some (.int (nI 0)), none, none]) (st' := []) 200 rfl ?_
  refine am_B.run (hp := false) (sp := [966]) (pc := 965) (lo := [some (.ref 0), some (.ref 1), some (.ref 53), some (.ref 69), some (.ref 70), some (.int (nI 0)), some (.int (nI 0)), none, none]) (st := []) (pc' := 966) (lo' := [some (.ref 0), some (.ref 1), some (.ref 53), some (.ref 69), some (.ref 70), some (.int (nI 0)), some (.int (nI 0)), none, none]) (st' := [.ref 53]) 200 rfl ?_
  refine lw_ld 966 972 (j := 1) (v := (nI 0)) rfl rfl rfl (fun _ _ => rfl) rfl rfl (by decide) h01 e1 ?_
  refine am_B.callV (rc := 1) (rs := 200) (ci := 5) (n := 1) (as := [.int (nI 0)]) rfl rfl rfl (mc_away _ M1) rfl rfl (by exact Nat.le_of_ble_eq_true rfl) rfl M1.2.1 rfl rfl (fun v h2 z => ?_)
  obtain ⟨rfl, p1, p2, vs, p3, p4⟩ := z
  have h02 := (p2 0 (Or.inl rfl)).trans h01
  refine am_B.run (hp := false) (sp := []) (pc := 975) (lo := [some (.ref 0), some (.ref 1), some (.ref 53), some (.ref 69), some (.ref 70), some (.int (nI 0)), some (.int (nI 0)), none, none]) (st := [_]) (pc' := 978) (lo' := [some (.ref 0), some (.ref 1), some (.ref 53), some (.ref 69), some (.ref 70), some (.int (nI 0)), some (.int (nI 0)), some _, none]) (st' := [.ref 53]) 200 rfl ?_
  refine am_B.callV (rc := 1) (rs := 200) (ci := 5) (n := 0) (as := []) rfl rfl rfl (mc_thrown _ 0 vs p3 p4) rfl rfl (by exact Nat.le_of_ble_eq_true rfl) rfl p3 rfl rfl (fun v h3 z => ?_)
  obtain ⟨rfl, rfl⟩ := z
  refine am_B.run (hp := false) (sp := []) (pc := 981) (lo := [some (.ref 0), some (.ref 1), some (.ref 53), some (.ref 69), some (.ref 70), some (.int (nI 0)), some (.int (nI 0)), some _, none]) (st := [.int (nI 0)]) (pc' := 983) (lo' := [some (.ref 0), some (.ref 1), some (.ref 53), some (.ref 69), some (.ref 70), some (.int (nI 0)), some (.int (nI 0)), some _, none]) (st' := [.int (nI 0), .int (nI 0)]) 200 rfl ?_
  refine am_B.icmp_eq rfl rfl (fun _ => ?_) (fun z => absurd rfl z)
  refine am_B.run (hp := false) (sp := []) (pc := 988) (lo := [some (.ref 0), some (.ref 1), some (.ref 53), some (.ref 69), some (.ref 70), some (.int (nI 0)), some (.int (nI 0)), some _, none]) (st := []) (pc' := 990) (lo' := [some (.ref 0), some (.ref 1), some (.ref 53), some (.ref 69), some (.ref 70), some (.int (nI 0)), some (.int (nI 0)), some _, none]) (st' := [.int (nI 0)]) 200 rfl ?_
  refine am_B.if_ne rfl rfl (fun z => absurd rfl z) (fun _ => ?_)
  refine am_B.run (hp := false) (sp := []) (pc := 993) (lo := [some (.ref 0), some (.ref 1), some (.ref 53), some (.ref 69), some (.ref 70), some (.int (nI 0)), some (.int (nI 0)), some _, none]) (st := []) (pc' := 995) (lo' := [some (.ref 0), some (.ref 1), some (.ref 53), some (.ref 69), some (.ref 70), some (.int (nI 0)), some (.int (nI 0)), some _, none]) (st' := [.int (nI 0), .ref 69]) 200 rfl ?_
  refine am_B.ald rfl ((p2 69 (by decide)).trans hg) (vp_n (show 0 < 1 by decide) rfl) rfl ?_
  rw [nI_clamp (show 0 < 2 ^ 31 by decide), hg0]
  refine am_B.run (hp := false) (sp := []) 200 rfl ?_
  refine am_B.if_eq rfl rfl (fun _ => ?_) (fun z => absurd (by first | decide | rfl | decide +kernel) z)
  refine am_B.run (hp := false) (sp := [1893]) 200 rfl ?_
  exact lw_up (lc_end nm xs _ h02 _ _ _ _ _)
set_option maxRecDepth 100000 in
set_option maxHeartbeats 4000000 in
theorem lc_last (nm : String) (xs : Nat → Int32) (h : am_H) (X : xF h) (M : mF h) (h0 : h[0]? = some (.inl (99, 5, .inl xs))) (h69 : h[69]? = some (la fun _ => 0)) (h70 : h[70]? = some (da fun _ => 0)) : lB nm 820 [some (.ref 0), some (.ref 1), some (.ref 53), some (.ref 69), some (.ref 70), some (.int (nI 0)), none, none, none] [] h 3 406 := by
  refine lw_sub (rows := r_LW_law_10 ++ (r_LW_law_11)) (am_all_app ok_LW_law_10 (ok_LW_law_11)) ?_
  refine am_B.run (hp := false) (sp := [821]) (pc := 820) (lo := [some (.ref 0), some (.ref 1), some (.ref 53), some (.ref 69), some (.ref 70), some (.int (nI 0)), none, none, none]) (st := []) (pc' := 821) (lo' := [some (.ref 0), some (.ref 1), some (.ref 53), some (.ref 69), some (.ref 70), some (.int (nI 0)), none, none, none]) (st' := [.ref 1]) 200 rfl ?_
  refine am_B.run (hp := false) (sp := []) (pc := 821) (lo := [some (.ref 0), some (.ref 1), some (.ref 53), some (.ref 69), some (.ref 70), some (.int (nI 0)), none, none, none]) (st := [.ref 1]) (pc' := 822) (lo' := [some (.ref 0), some (.ref 1), some (.ref 53), some (.ref 69), some (.ref 70), some (.int (nI 0)), none, none, none]) (st' := [.ref 69, .ref 1]) 200 rfl ?_
  refine am_B.callSW (rc := 2) (rs := 400) (M := m_LW_last) (n := 2) (as := [.ref 1, .ref 69]) rfl rfl kw1_last kw2_last kw3_last kw5_LW kw4_last (ls_last h X (fun _ => 0) h69) rfl rfl (by exact Nat.le_of_ble_eq_true rfl) rfl rfl rfl (fun v h' z => ?_)
  obtain ⟨rfl, o1, g, hg, hg0⟩ := z
  have M1 : mF h' := M.of o1
  have h01 := (o1.2 0 (by have := M.1; omega) (Or.inl rfl)).trans h0
  refine am_B.run (hp := false) (sp := [827]) (pc := 825) (lo := [some (.ref 0), some (.ref 1), some (.ref 53), some (.ref 69), some (.ref 70), some (.int (nI 0)), none, none, none]) (st := [.int (nI 0)]) (pc' := 827) (lo' := [some (.ref 0), some (.ref 1), some (.ref 53), some (.ref 69), some (.ref 70), some (.int (nI 0)), some (.int (nI 0)), none, none]) (st' := []) 200 rfl ?_
  refine am_B.run (hp := false) (sp := [828]) (pc := 827) (lo := [some (.ref 0), some (.ref 1), some (.ref 53), some (.ref 69), some (.ref 70), some (.int (nI 0)), some (.int (nI 0)), none, none]) (st := []) (pc' := 828) (lo' := [some (.ref 0), some (.ref 1), some (.ref 53), some (.ref 69), some (.ref 70), some (.int (nI 0)), some (.int (nI 0)), none, none]) (st' := [.ref 53]) 200 rfl ?_
  refine am_B.callV (rc := 2) (rs := 400) (ci := 5) (n := 0) (as := []) rfl rfl rfl (mc_last _ M1) rfl rfl (by exact Nat.le_of_ble_eq_true rfl) rfl M1.2.1 rfl rfl (fun v h2 z => ?_)
  obtain ⟨rfl, p1, p2, vs, p3, p4⟩ := z
  have h02 := (p2 0 (Or.inl rfl)).trans h01
  refine am_B.run (hp := false) (sp := []) (pc := 831) (lo := [some (.ref 0), some (.ref 1), some (.ref 53), some (.ref 69), some (.ref 70), some (.int (nI 0)), some (.int (nI 0)), none, none]) (st := [_]) (pc' := 834) (lo' := [some (.ref 0), some (.ref 1), some (.ref 53), some (.ref 69), some (.ref 70), some (.int (nI 0)), some (.int (nI 0)), some _, none]) (st' := [.ref 53]) 200 rfl ?_
  refine am_B.callV (rc := 2) (rs := 400) (ci := 5) (n := 0) (as := []) rfl rfl rfl (mc_thrown _ 0 vs p3 p4) rfl rfl (by exact Nat.le_of_ble_eq_true rfl) rfl p3 rfl rfl (fun v h3 z => ?_)
  obtain ⟨rfl, rfl⟩ := z
  refine am_B.run (hp := false) (sp := []) (pc := 837) (lo := [some (.ref 0), some (.ref 1), some (.ref 53), some (.ref 69), some (.ref 70), some (.int (nI 0)), some (.int (nI 0)), some _, none]) (st := [.int (nI 0)]) (pc' := 839) (lo' := [some (.ref 0), some (.ref 1), some (.ref 53), some (.ref 69), some (.ref 70), some (.int (nI 0)), some (.int (nI 0)), some _, none]) (st' := [.int (nI 0), .int (nI 0)]) 200 rfl ?_
  refine am_B.icmp_eq rfl rfl (fun _ => ?_) (fun z => absurd rfl z)
  refine am_B.run (hp := false) (sp := []) (pc := 844) (lo := [some (.ref 0), some (.ref 1), some (.ref 53), some (.ref 69), some (.ref 70), some (.int (nI 0)), some (.int (nI 0)), some _, none]) (st := []) (pc' := 846) (lo' := [some (.ref 0), some (.ref 1), some (.ref 53), some (.ref 69), some (.ref 70), some (.int (nI 0)), some (.int (nI 0)), some _, none]) (st' := [.int (nI 0)]) 200 rfl ?_
  refine am_B.if_ne rfl rfl (fun z => absurd rfl z) (fun _ => ?_)
  refine am_B.run (hp := false) (sp := []) (pc := 849) (lo := [some (.ref 0), some (.ref 1), some (.ref 53), some (.ref 69), some (.ref 70), some (.int (nI 0)), some (.int (nI 0)), some _, none]) (st := []) (pc' := 851) (lo' := [some (.ref 0), some (.ref 1), some (.ref 53), some (.ref 69), some (.ref 70), some (.int (nI 0)), some (.int (nI 0)), some _, none]) (st' := [.int (nI 0), .ref 69]) 200 rfl ?_
  refine am_B.ald rfl ((p2 69 (by decide)).trans hg) (vp_n (show 0 < 1 by decide) rfl) rfl ?_
  rw [nI_clamp (show 0 < 2 ^ 31 by decide), hg0]
  refine am_B.run (hp := false) (sp := []) 200 rfl ?_
  refine am_B.if_eq rfl rfl (fun _ => ?_) (fun z => absurd (by first | decide | rfl | decide +kernel) z)
  refine am_B.run (hp := false) (sp := [1893]) 200 rfl ?_
  exact lw_up (lc_end nm xs _ h02 _ _ _ _ _)
set_option maxRecDepth 100000 in
set_option maxHeartbeats 4000000 in
theorem lc_dead (nm : String) (xs : Nat → Int32) (h : am_H) (X : xF h) (M : mF h) (h0 : h[0]? = some (.inl (99, 5, .inl xs))) (h69 : h[69]? = some (la fun _ => 0)) (h70 : h[70]? = some (da fun _ => 0)) : lB nm 864 [some (.ref 0), some (.ref 1), some (.ref 53), some (.ref 69), some (.ref 70), some (.int (nI 0)), none, none, none] [] h 3 406 := by
  refine lw_sub (rows := r_LW_law_11 ++ (r_LW_law_12)) (am_all_app ok_LW_law_11 (ok_LW_law_12)) ?_
  refine am_B.run (hp := false) (sp := [865]) (pc := 864) (lo := [some (.ref 0), some (.ref 1), some (.ref 53), some (.ref 69), some (.ref 70), some (.int (nI 0)), none, none, none]) (st := []) (pc' := 865) (lo' := [some (.ref 0), some (.ref 1), some (.ref 53), some (.ref 69), some (.ref 70), some (.int (nI 0)), none, none, none]) (st' := [.ref 1]) 200 rfl ?_
  refine am_B.run (hp := false) (sp := []) (pc := 865) (lo := [some (.ref 0), some (.ref 1), some (.ref 53), some (.ref 69), some (.ref 70), some (.int (nI 0)), none, none, none]) (st := [.ref 1]) (pc' := 866) (lo' := [some (.ref 0), some (.ref 1), some (.ref 53), some (.ref 69), some (.ref 70), some (.int (nI 0)), none, none, none]) (st' := [.ref 69, .ref 1]) 200 rfl ?_
  refine am_B.callSW (rc := 2) (rs := 400) (M := m_LW_dead) (n := 2) (as := [.ref 1, .ref 69]) rfl rfl kw1_dead kw2_dead kw3_dead kw5_LW kw4_dead (ls_dead h X (fun _ => 0) h69) rfl rfl (by exact Nat.le_of_ble_eq_true rfl) rfl rfl rfl (fun v h' z => ?_)
  obtain ⟨rfl, o1, g, hg, hg0⟩ := z
  have M1 : mF h' := M.of o1
  have h01 := (o1.2 0 (by have := M.1; omega) (Or.inl rfl)).trans h0
  refine am_B.run (hp := false) (sp := [871]) (pc := 869) (lo := [some (.ref 0), some (.ref 1), some (.ref 53), some (.ref 69), some (.ref 70), some (.int (nI 0)), none, none, none]) (st := [.int (nI 0)]) (pc' := 871) (lo' := [some (.ref 0), some (.ref 1), some (.ref 53), some (.ref 69), some (.ref 70), some (.int (nI 0)), some (.int (nI 0)), none, none]) (st' := []) 200 rfl ?_
  refine am_B.run (hp := false) (sp := [872]) (pc := 871) (lo := [some (.ref 0), some (.ref 1), some (.ref 53), some (.ref 69), some (.ref 70), some (.int (nI 0)), some (.int (nI 0)), none, none]) (st := []) (pc' := 872) (lo' := [some (.ref 0), some (.ref 1), some (.ref 53), some (.ref 69), some (.ref 70), some (.int (nI 0)), some (.int (nI 0)), none, none]) (st' := [.ref 53]) 200 rfl ?_
  refine am_B.callV (rc := 2) (rs := 400) (ci := 5) (n := 0) (as := []) rfl rfl rfl (mc_dead _ M1) rfl rfl (by exact Nat.le_of_ble_eq_true rfl) rfl M1.2.1 rfl rfl (fun v h2 z => ?_)
  obtain ⟨rfl, p1, p2, vs, p3, p4⟩ := z
  have h02 := (p2 0 (Or.inl rfl)).trans h01
  refine am_B.run (hp := false) (sp := []) (pc := 875) (lo := [some (.ref 0), some (.ref 1), some (.ref 53), some (.ref 69), some (.ref 70), some (.int (nI 0)), some (.int (nI 0)), none, none]) (st := [_]) (pc' := 878) (lo' := [some (.ref 0), some (.ref 1), some (.ref 53), some (.ref 69), some (.ref 70), some (.int (nI 0)), some (.int (nI 0)), some _, none]) (st' := [.ref 53]) 200 rfl ?_
  refine am_B.callV (rc := 2) (rs := 400) (ci := 5) (n := 0) (as := []) rfl rfl rfl (mc_thrown _ 0 vs p3 p4) rfl rfl (by exact Nat.le_of_ble_eq_true rfl) rfl p3 rfl rfl (fun v h3 z => ?_)
  obtain ⟨rfl, rfl⟩ := z
  refine am_B.run (hp := false) (sp := []) (pc := 881) (lo := [some (.ref 0), some (.ref 1), some (.ref 53), some (.ref 69), some (.ref 70), some (.int (nI 0)), some (.int (nI 0)), some _, none]) (st := [.int (nI 0)]) (pc' := 883) (lo' := [some (.ref 0), some (.ref 1), some (.ref 53), some (.ref 69), some (.ref 70), some (.int (nI 0)), some (.int (nI 0)), some _, none]) (st' := [.int (nI 0), .int (nI 0)]) 200 rfl ?_
  refine am_B.icmp_eq rfl rfl (fun _ => ?_) (fun z => absurd rfl z)
  refine am_B.run (hp := false) (sp := []) (pc := 888) (lo := [some (.ref 0), some (.ref 1), some (.ref 53), some (.ref 69), some (.ref 70), some (.int (nI 0)), some (.int (nI 0)), some _, none]) (st := []) (pc' := 890) (lo' := [some (.ref 0), some (.ref 1), some (.ref 53), some (.ref 69), some (.ref 70), some (.int (nI 0)), some (.int (nI 0)), some _, none]) (st' := [.int (nI 0)]) 200 rfl ?_
  refine am_B.if_ne rfl rfl (fun z => absurd rfl z) (fun _ => ?_)
  refine am_B.run (hp := false) (sp := []) (pc := 893) (lo := [some (.ref 0), some (.ref 1), some (.ref 53), some (.ref 69), some (.ref 70), some (.int (nI 0)), some (.int (nI 0)), some _, none]) (st := []) (pc' := 895) (lo' := [some (.ref 0), some (.ref 1), some (.ref 53), some (.ref 69), some (.ref 70), some (.int (nI 0)), some (.int (nI 0)), some _, none]) (st' := [.int (nI 0), .ref 69]) 200 rfl ?_
  refine am_B.ald rfl ((p2 69 (by decide)).trans hg) (vp_n (show 0 < 1 by decide) rfl) rfl ?_
  rw [nI_clamp (show 0 < 2 ^ 31 by decide), hg0]
  refine am_B.run (hp := false) (sp := []) 200 rfl ?_
  refine am_B.if_eq rfl rfl (fun _ => ?_) (fun z => absurd (by first | decide | rfl | decide +kernel) z)
  refine am_B.run (hp := false) (sp := [1893]) 200 rfl ?_
  exact lw_up (lc_end nm xs _ h02 _ _ _ _ _)
set_option maxRecDepth 100000 in
set_option maxHeartbeats 4000000 in
theorem lc_live (nm : String) (xs : Nat → Int32) (h : am_H) (X : xF h) (M : mF h) (h0 : h[0]? = some (.inl (99, 5, .inl xs))) (h69 : h[69]? = some (la fun _ => 0)) (h70 : h[70]? = some (da fun _ => 0)) : lB nm 908 [some (.ref 0), some (.ref 1), some (.ref 53), some (.ref 69), some (.ref 70), some (.int (nI 0)), none, none, none] [] h 3 406 := by
  refine lw_sub (rows := r_LW_law_12) (ok_LW_law_12) ?_
  refine am_B.run (hp := false) (sp := [909]) (pc := 908) (lo := [some (.ref 0), some (.ref 1), some (.ref 53), some (.ref 69), some (.ref 70), some (.int (nI 0)), none, none, none]) (st := []) (pc' := 909) (lo' := [some (.ref 0), some (.ref 1), some (.ref 53), some (.ref 69), some (.ref 70), some (.int (nI 0)), none, none, none]) (st' := [.ref 1]) 200 rfl ?_
  refine am_B.run (hp := false) (sp := []) (pc := 909) (lo := [some (.ref 0), some (.ref 1), some (.ref 53), some (.ref 69), some (.ref 70), some (.int (nI 0)), none, none, none]) (st := [.ref 1]) (pc' := 910) (lo' := [some (.ref 0), some (.ref 1), some (.ref 53), some (.ref 69), some (.ref 70), some (.int (nI 0)), none, none, none]) (st' := [.ref 69, .ref 1]) 200 rfl ?_
  refine am_B.callSW (rc := 2) (rs := 400) (M := m_LW_live) (n := 2) (as := [.ref 1, .ref 69]) rfl rfl kw1_live kw2_live kw3_live kw5_LW kw4_live (ls_live h X (fun _ => 0) h69) rfl rfl (by exact Nat.le_of_ble_eq_true rfl) rfl rfl rfl (fun v h' z => ?_)
  obtain ⟨rfl, o1, g, hg, hg0⟩ := z
  have M1 : mF h' := M.of o1
  have h01 := (o1.2 0 (by have := M.1; omega) (Or.inl rfl)).trans h0
  refine am_B.run (hp := false) (sp := [915]) (pc := 913) (lo := [some (.ref 0), some (.ref 1), some (.ref 53), some (.ref 69), some (.ref 70), some (.int (nI 0)), none, none, none]) (st := [.int (nI 0)]) (pc' := 915) (lo' := [some (.ref 0), some (.ref 1), some (.ref 53), some (.ref 69), some (.ref 70), some (.int (nI 0)), some (.int (nI 0)), none, none]) (st' := []) 200 rfl ?_
  refine am_B.run (hp := false) (sp := [916]) (pc := 915) (lo := [some (.ref 0), some (.ref 1), some (.ref 53), some (.ref 69), some (.ref 70), some (.int (nI 0)), some (.int (nI 0)), none, none]) (st := []) (pc' := 916) (lo' := [some (.ref 0), some (.ref 1), some (.ref 53), some (.ref 69), some (.ref 70), some (.int (nI 0)), some (.int (nI 0)), none, none]) (st' := [.ref 53]) 200 rfl ?_
  refine am_B.callV (rc := 2) (rs := 400) (ci := 5) (n := 0) (as := []) rfl rfl rfl (mc_live _ M1) rfl rfl (by exact Nat.le_of_ble_eq_true rfl) rfl M1.2.1 rfl rfl (fun v h2 z => ?_)
  obtain ⟨rfl, p1, p2, vs, p3, p4⟩ := z
  have h02 := (p2 0 (Or.inl rfl)).trans h01
  refine am_B.run (hp := false) (sp := []) (pc := 919) (lo := [some (.ref 0), some (.ref 1), some (.ref 53), some (.ref 69), some (.ref 70), some (.int (nI 0)), some (.int (nI 0)), none, none]) (st := [_]) (pc' := 922) (lo' := [some (.ref 0), some (.ref 1), some (.ref 53), some (.ref 69), some (.ref 70), some (.int (nI 0)), some (.int (nI 0)), some _, none]) (st' := [.ref 53]) 200 rfl ?_
  refine am_B.callV (rc := 2) (rs := 400) (ci := 5) (n := 0) (as := []) rfl rfl rfl (mc_thrown _ 0 vs p3 p4) rfl rfl (by exact Nat.le_of_ble_eq_true rfl) rfl p3 rfl rfl (fun v h3 z => ?_)
  obtain ⟨rfl, rfl⟩ := z
  refine am_B.run (hp := false) (sp := []) (pc := 925) (lo := [some (.ref 0), some (.ref 1), some (.ref 53), some (.ref 69), some (.ref 70), some (.int (nI 0)), some (.int (nI 0)), some _, none]) (st := [.int (nI 0)]) (pc' := 927) (lo' := [some (.ref 0), some (.ref 1), some (.ref 53), some (.ref 69), some (.ref 70), some (.int (nI 0)), some (.int (nI 0)), some _, none]) (st' := [.int (nI 0), .int (nI 0)]) 200 rfl ?_
  refine am_B.icmp_eq rfl rfl (fun _ => ?_) (fun z => absurd rfl z)
  refine am_B.run (hp := false) (sp := []) (pc := 932) (lo := [some (.ref 0), some (.ref 1), some (.ref 53), some (.ref 69), some (.ref 70), some (.int (nI 0)), some (.int (nI 0)), some _, none]) (st := []) (pc' := 934) (lo' := [some (.ref 0), some (.ref 1), some (.ref 53), some (.ref 69), some (.ref 70), some (.int (nI 0)), some (.int (nI 0)), some _, none]) (st' := [.int (nI 0)]) 200 rfl ?_
  refine am_B.if_ne rfl rfl (fun z => absurd rfl z) (fun _ => ?_)
  refine am_B.run (hp := false) (sp := []) (pc := 937) (lo := [some (.ref 0), some (.ref 1), some (.ref 53), some (.ref 69), some (.ref 70), some (.int (nI 0)), some (.int (nI 0)), some _, none]) (st := []) (pc' := 939) (lo' := [some (.ref 0), some (.ref 1), some (.ref 53), some (.ref 69), some (.ref 70), some (.int (nI 0)), some (.int (nI 0)), some _, none]) (st' := [.int (nI 0), .ref 69]) 200 rfl ?_
  refine am_B.ald rfl ((p2 69 (by decide)).trans hg) (vp_n (show 0 < 1 by decide) rfl) rfl ?_
  rw [nI_clamp (show 0 < 2 ^ 31 by decide), hg0]
  refine am_B.run (hp := false) (sp := []) 200 rfl ?_
  refine am_B.if_eq rfl rfl (fun _ => ?_) (fun z => absurd (by first | decide | rfl | decide +kernel) z)
  refine am_B.run (hp := false) (sp := [1893]) 200 rfl ?_
  exact lw_up (lc_end nm xs _ h02 _ _ _ _ _)
