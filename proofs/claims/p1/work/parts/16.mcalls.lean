/-! THE FRESH REFERENCE's public methods -/
set_option maxRecDepth 100000 in
set_option maxHeartbeats 4000000 in
theorem mc_addPlace (h : am_H) (M : mF h) : am_Ct am_G0 m_MO_addPlace 3 0 0 [.ref 53] h (fun v h' => v = some (.int (nI 0)) ∧ mP 0 h h') := by
  have m53 := M.2.1
  refine am_Ct.of (E := E_MO_addPlace) e_MO_addPlace (by decide) (Nat.le_of_ble_eq_true rfl) ?_
  refine am_B.run (hp := false) (sp := []) 200 rfl ?_
  refine am_B.put rfl rfl rfl m53 rfl (Nat.le_of_ble_eq_true rfl) rfl (fun q => by cases q) ?_
  have e53 : h.set 53 c_M0 = h := gs_id m53
  show am_B _ _ _ _ _ _ (h.set 53 c_M0) _ _
  rw [e53]
  refine am_B.run (hp := false) (sp := []) 200 rfl ?_
  refine am_B.get rfl rfl rfl m53 rfl rfl ?_
  refine am_B.run (hp := false) (sp := []) 200 rfl ?_
  refine am_B.icmp_ne rfl rfl (fun _ => ?_) (fun z => absurd z (by decide))
  refine am_B.run (hp := false) (sp := []) 200 rfl ?_
  refine am_B.get rfl rfl rfl m53 rfl rfl ?_
  refine am_B.run (hp := false) (sp := []) 200 rfl ?_
  refine am_B.put rfl rfl rfl m53 rfl (Nat.le_of_ble_eq_true rfl) rfl (fun q => by cases q) ?_
  refine am_B.run (hp := false) (sp := []) 200 rfl ?_
  refine am_B.put rfl rfl rfl (gs_s m53) rfl (Nat.le_of_ble_eq_true rfl) rfl (fun q => by cases q) ?_
  rw [gs_ss]
  refine am_B.run (hp := false) (sp := []) 200 rfl ?_
  refine am_B.get rfl rfl rfl (gs_s m53) rfl rfl ?_
  refine am_B.run (hp := false) (sp := []) 200 rfl ?_
  exact am_B.iret rfl rfl rfl ⟨congrArg (fun x => some (Value.int x)) (by decide : nI 0 + nI 1 - nI 1 = nI 0), (mP.rf M).set53 rfl⟩
set_option maxRecDepth 100000 in
set_option maxHeartbeats 4000000 in
theorem mc_addTransitionN (h : am_H) (M : mF h) : am_Ct am_G0 m_MO_addTransition 3 0 0 [.ref 53, .int (-1)] h (fun v h' => v = some (.int (nI 0)) ∧ mP 0 h h') := by
  have m53 := M.2.1
  refine am_Ct.of (E := E_MO_addTransition) e_MO_addTransition (by decide) (Nat.le_of_ble_eq_true rfl) ?_
  refine am_B.run (hp := false) (sp := []) 200 rfl ?_
  refine am_B.put rfl rfl rfl m53 rfl (Nat.le_of_ble_eq_true rfl) rfl (fun q => by cases q) ?_
  have e53 : h.set 53 c_M0 = h := gs_id m53
  show am_B _ _ _ _ _ _ (h.set 53 c_M0) _ _
  rw [e53]
  refine am_B.run (hp := false) (sp := []) 200 rfl ?_
  refine am_B.icmp_eq rfl rfl (fun _ => ?_) (fun z => absurd rfl z)
  refine am_B.run (hp := false) (sp := []) 200 rfl ?_
  refine am_B.get rfl rfl rfl m53 rfl rfl ?_
  refine am_B.run (hp := false) (sp := []) 200 rfl ?_
  refine am_B.icmp_ne rfl rfl (fun _ => ?_) (fun z => absurd z (by decide))
  refine am_B.run (hp := false) (sp := []) 200 rfl ?_
  refine am_B.get rfl rfl rfl m53 rfl rfl ?_
  refine am_B.run (hp := false) (sp := []) 200 rfl ?_
  refine am_B.get rfl rfl rfl m53 rfl rfl ?_
  refine am_B.run (hp := false) (sp := []) 200 rfl ?_
  refine am_B.ast rfl M.2.2.1 (vp_n (show 0 < 10 by decide) rfl) rfl ?_
  rw [nI_clamp (show 0 < 2 ^ 31 by decide)]
  refine am_B.run (hp := false) (sp := []) 200 rfl ?_
  refine am_B.get rfl rfl rfl (gs_n (by decide) m53) rfl rfl ?_
  refine am_B.run (hp := false) (sp := []) 200 rfl ?_
  refine am_B.get rfl rfl rfl (gs_n (by decide) m53) rfl rfl ?_
  refine am_B.run (hp := false) (sp := []) 200 rfl ?_
  refine am_B.icmp_ne rfl rfl (fun z => absurd rfl z) (fun _ => ?_)
  refine am_B.run (hp := false) (sp := []) 200 rfl ?_
  refine am_B.ast rfl (gs_n (by decide) M.2.2.2.1) (vp_n (show 0 < 10 by decide) rfl) rfl ?_
  rw [nI_clamp (show 0 < 2 ^ 31 by decide)]
  refine am_B.run (hp := false) (sp := []) 200 rfl ?_
  refine am_B.get rfl rfl rfl (gs_n (by decide) (gs_n (by decide) m53)) rfl rfl ?_
  refine am_B.run (hp := false) (sp := []) 200 rfl ?_
  refine am_B.get rfl rfl rfl (gs_n (by decide) (gs_n (by decide) m53)) rfl rfl ?_
  refine am_B.run (hp := false) (sp := []) 200 rfl ?_
  refine am_B.ast rfl (gs_n (by decide) (gs_n (by decide) M.2.2.2.2.1)) (vp_n (show 0 < 10 by decide) rfl) rfl ?_
  rw [nI_clamp (show 0 < 2 ^ 31 by decide)]
  refine am_B.run (hp := false) (sp := []) 200 rfl ?_
  refine am_B.get rfl rfl rfl (gs_n (by decide) (gs_n (by decide) (gs_n (by decide) m53))) rfl rfl ?_
  refine am_B.run (hp := false) (sp := []) 200 rfl ?_
  refine am_B.get rfl rfl rfl (gs_n (by decide) (gs_n (by decide) (gs_n (by decide) m53))) rfl rfl ?_
  refine am_B.run (hp := false) (sp := []) 200 rfl ?_
  refine am_B.ast rfl (gs_n (by decide) (gs_n (by decide) (gs_n (by decide) M.2.2.2.2.2.1))) (vp_n (show 0 < 10 by decide) rfl) rfl ?_
  rw [nI_clamp (show 0 < 2 ^ 31 by decide)]
  refine am_B.run (hp := false) (sp := []) 200 rfl ?_
  refine am_B.get rfl rfl rfl (gs_n (by decide) (gs_n (by decide) (gs_n (by decide) (gs_n (by decide) m53)))) rfl rfl ?_
  refine am_B.run (hp := false) (sp := []) 200 rfl ?_
  refine am_B.put rfl rfl rfl (gs_n (by decide) (gs_n (by decide) (gs_n (by decide) (gs_n (by decide) m53)))) rfl (Nat.le_of_ble_eq_true rfl) rfl (fun q => by cases q) ?_
  refine am_B.run (hp := false) (sp := []) 200 rfl ?_
  refine am_B.put rfl rfl rfl (gs_s (gs_n (by decide) (gs_n (by decide) (gs_n (by decide) (gs_n (by decide) m53))))) rfl (Nat.le_of_ble_eq_true rfl) rfl (fun q => by cases q) ?_
  rw [gs_ss]
  refine am_B.run (hp := false) (sp := []) 200 rfl ?_
  refine am_B.get rfl rfl rfl (gs_s (gs_n (by decide) (gs_n (by decide) (gs_n (by decide) (gs_n (by decide) m53))))) rfl rfl ?_
  refine am_B.run (hp := false) (sp := []) 200 rfl ?_
  exact am_B.iret rfl rfl rfl ⟨congrArg (fun x => some (Value.int x)) (by decide : nI 0 + nI 1 - nI 1 = nI 0), (((((mP.rf M).set (by decide) _).set (by decide) _).set (by decide) _).set (by decide) _).set53 rfl⟩
set_option maxRecDepth 100000 in
set_option maxHeartbeats 4000000 in
theorem mc_addTransitionL (h : am_H) (M : mF h) (l : Nat) (hl : l < 6) : am_Ct am_G0 m_MO_addTransition 3 0 0 [.ref 53, .int (nI l)] h (fun v h' => v = some (.int (nI 0)) ∧ mP 0 h h') := by
  have m53 := M.2.1
  refine am_Ct.of (E := E_MO_addTransition) e_MO_addTransition (by decide) (Nat.le_of_ble_eq_true rfl) ?_
  refine am_B.run (hp := false) (sp := []) 200 rfl ?_
  refine am_B.put rfl rfl rfl m53 rfl (Nat.le_of_ble_eq_true rfl) rfl (fun q => by cases q) ?_
  have e53 : h.set 53 c_M0 = h := gs_id m53
  show am_B _ _ _ _ _ _ (h.set 53 c_M0) _ _
  rw [e53]
  refine am_B.run (hp := false) (sp := []) 200 rfl ?_
  refine am_B.icmp_eq rfl rfl (fun z => absurd z (nI_neg1 (by omega))) (fun _ => ?_)
  refine am_B.run (hp := false) (sp := []) 200 rfl ?_
  refine am_B.callS (n := 1) (as := [.int (nI l)]) rfl rfl rfl (mt_isLabel1 _ l hl) rfl rfl (by exact Nat.le_of_ble_eq_true rfl) rfl rfl rfl (fun v h' z => ?_)
  obtain ⟨rfl, rfl⟩ := z
  refine am_B.if_ne rfl rfl (fun _ => ?_) (fun z => absurd z (by decide))
  refine am_B.run (hp := false) (sp := []) 200 rfl ?_
  refine am_B.get rfl rfl rfl m53 rfl rfl ?_
  refine am_B.run (hp := false) (sp := []) 200 rfl ?_
  refine am_B.icmp_ne rfl rfl (fun _ => ?_) (fun z => absurd z (by decide))
  refine am_B.run (hp := false) (sp := []) 200 rfl ?_
  refine am_B.get rfl rfl rfl m53 rfl rfl ?_
  refine am_B.run (hp := false) (sp := []) 200 rfl ?_
  refine am_B.get rfl rfl rfl m53 rfl rfl ?_
  refine am_B.run (hp := false) (sp := []) 200 rfl ?_
  refine am_B.ast rfl M.2.2.1 (vp_n (show 0 < 10 by decide) rfl) rfl ?_
  rw [nI_clamp (show 0 < 2 ^ 31 by decide)]
  refine am_B.run (hp := false) (sp := []) 200 rfl ?_
  refine am_B.get rfl rfl rfl (gs_n (by decide) m53) rfl rfl ?_
  refine am_B.run (hp := false) (sp := []) 200 rfl ?_
  refine am_B.get rfl rfl rfl (gs_n (by decide) m53) rfl rfl ?_
  refine am_B.run (hp := false) (sp := []) 200 rfl ?_
  refine am_B.icmp_ne rfl rfl (fun _ => ?_) (fun z => absurd z (nI_neg1 (by omega)))
  refine am_B.run (hp := false) (sp := []) 200 rfl ?_
  refine am_B.ast rfl (gs_n (by decide) M.2.2.2.1) (vp_n (show 0 < 10 by decide) rfl) rfl ?_
  rw [nI_clamp (show 0 < 2 ^ 31 by decide)]
  refine am_B.run (hp := false) (sp := []) 200 rfl ?_
  refine am_B.get rfl rfl rfl (gs_n (by decide) (gs_n (by decide) m53)) rfl rfl ?_
  refine am_B.run (hp := false) (sp := []) 200 rfl ?_
  refine am_B.get rfl rfl rfl (gs_n (by decide) (gs_n (by decide) m53)) rfl rfl ?_
  refine am_B.run (hp := false) (sp := []) 200 rfl ?_
  refine am_B.ast rfl (gs_n (by decide) (gs_n (by decide) M.2.2.2.2.1)) (vp_n (show 0 < 10 by decide) rfl) rfl ?_
  rw [nI_clamp (show 0 < 2 ^ 31 by decide)]
  refine am_B.run (hp := false) (sp := []) 200 rfl ?_
  refine am_B.get rfl rfl rfl (gs_n (by decide) (gs_n (by decide) (gs_n (by decide) m53))) rfl rfl ?_
  refine am_B.run (hp := false) (sp := []) 200 rfl ?_
  refine am_B.get rfl rfl rfl (gs_n (by decide) (gs_n (by decide) (gs_n (by decide) m53))) rfl rfl ?_
  refine am_B.run (hp := false) (sp := []) 200 rfl ?_
  refine am_B.ast rfl (gs_n (by decide) (gs_n (by decide) (gs_n (by decide) M.2.2.2.2.2.1))) (vp_n (show 0 < 10 by decide) rfl) rfl ?_
  rw [nI_clamp (show 0 < 2 ^ 31 by decide)]
  refine am_B.run (hp := false) (sp := []) 200 rfl ?_
  refine am_B.get rfl rfl rfl (gs_n (by decide) (gs_n (by decide) (gs_n (by decide) (gs_n (by decide) m53)))) rfl rfl ?_
  refine am_B.run (hp := false) (sp := []) 200 rfl ?_
  refine am_B.put rfl rfl rfl (gs_n (by decide) (gs_n (by decide) (gs_n (by decide) (gs_n (by decide) m53)))) rfl (Nat.le_of_ble_eq_true rfl) rfl (fun q => by cases q) ?_
  refine am_B.run (hp := false) (sp := []) 200 rfl ?_
  refine am_B.put rfl rfl rfl (gs_s (gs_n (by decide) (gs_n (by decide) (gs_n (by decide) (gs_n (by decide) m53))))) rfl (Nat.le_of_ble_eq_true rfl) rfl (fun q => by cases q) ?_
  rw [gs_ss]
  refine am_B.run (hp := false) (sp := []) 200 rfl ?_
  refine am_B.get rfl rfl rfl (gs_s (gs_n (by decide) (gs_n (by decide) (gs_n (by decide) (gs_n (by decide) m53))))) rfl rfl ?_
  refine am_B.run (hp := false) (sp := []) 200 rfl ?_
  exact am_B.iret rfl rfl rfl ⟨congrArg (fun x => some (Value.int x)) (by decide : nI 0 + nI 1 - nI 1 = nI 0), (((((mP.rf M).set (by decide) _).set (by decide) _).set (by decide) _).set (by decide) _).set53 rfl⟩
set_option maxRecDepth 100000 in
set_option maxHeartbeats 4000000 in
theorem mc_addTransitionB (h : am_H) (M : mF h) (x : Int32) (hx : xbad x 6) (hm : ¬ x = -1) : am_Ct am_G0 m_MO_addTransition 3 0 0 [.ref 53, .int x] h (fun v h' => v = some (.int (nI 0)) ∧ mP 1 h h') := by
  have m53 := M.2.1
  refine am_Ct.of (E := E_MO_addTransition) e_MO_addTransition (by decide) (Nat.le_of_ble_eq_true rfl) ?_
  refine am_B.run (hp := false) (sp := []) 200 rfl ?_
  refine am_B.put rfl rfl rfl m53 rfl (Nat.le_of_ble_eq_true rfl) rfl (fun q => by cases q) ?_
  have e53 : h.set 53 c_M0 = h := gs_id m53
  show am_B _ _ _ _ _ _ (h.set 53 c_M0) _ _
  rw [e53]
  refine am_B.run (hp := false) (sp := []) 200 rfl ?_
  refine am_B.icmp_eq rfl rfl (fun z => absurd z hm) (fun _ => ?_)
  refine am_B.run (hp := false) (sp := []) 200 rfl ?_
  refine am_B.callS (n := 1) (as := [.int x]) rfl rfl rfl (mt_isLabel0 _ x hx) rfl rfl (by exact Nat.le_of_ble_eq_true rfl) rfl rfl rfl (fun v h' z => ?_)
  obtain ⟨rfl, rfl⟩ := z
  refine am_B.if_ne rfl rfl (fun z => absurd rfl z) (fun _ => ?_)
  refine am_B.run (hp := false) (sp := []) 200 rfl ?_
  refine am_B.callV (ci := 5) (n := 1) (as := [.int (nI 1)]) rfl rfl rfl (mt_no 0 _ 1 _ m53 rfl) rfl rfl (by exact Nat.le_of_ble_eq_true rfl) rfl m53 rfl rfl (fun v h' z => ?_)
  obtain ⟨rfl, rfl⟩ := z
  exact am_B.iret rfl rfl rfl ⟨rfl, (mP.rf M).set53 rfl⟩
set_option maxRecDepth 100000 in
set_option maxHeartbeats 4000000 in
theorem mc_link (h : am_H) (M : mF h) (a b c d : Int32) : am_Ct am_G0 m_MO_link 3 0 0 [.ref 53, .int a, .int b, .int c, .int d] h (fun v h' => v = some (.int (nI 0)) ∧ mP 1 h h') := by
  have m53 := M.2.1
  refine am_Ct.of (E := E_MO_link) e_MO_link (by decide) (Nat.le_of_ble_eq_true rfl) ?_
  refine am_B.run (hp := false) (sp := []) 200 rfl ?_
  refine am_B.callV (ci := 5) (n := 1) (as := [.int a]) rfl rfl rfl (mt_isTransition _ a _ m53 rfl) rfl rfl (by exact Nat.le_of_ble_eq_true rfl) rfl m53 rfl rfl (fun v h' z => ?_)
  obtain ⟨rfl, rfl⟩ := z
  refine am_B.if_eq rfl rfl (fun _ => ?_) (fun z => absurd rfl z)
  refine am_B.run (hp := false) (sp := []) 200 rfl ?_
  refine am_B.put rfl rfl rfl m53 rfl (Nat.le_of_ble_eq_true rfl) rfl (fun q => by cases q) ?_
  refine am_B.run (hp := false) (sp := []) 200 rfl ?_
  refine am_B.get rfl rfl rfl (gs_s m53) rfl rfl ?_
  refine am_B.if_eq rfl rfl (fun z => absurd z (by decide)) (fun _ => ?_)
  refine am_B.run (hp := false) (sp := []) 200 rfl ?_
  exact am_B.zret rfl rfl rfl rfl ⟨rfl, (mP.rf M).set53 rfl⟩
set_option maxRecDepth 100000 in
set_option maxHeartbeats 4000000 in
theorem mc_setTokens (h : am_H) (M : mF h) (a b c : Int32) : am_Ct am_G0 m_MO_setTokens 3 0 0 [.ref 53, .int a, .int b, .int c] h (fun v h' => v = some (.int (nI 0)) ∧ mP 1 h h') := by
  have m53 := M.2.1
  refine am_Ct.of (E := E_MO_setTokens) e_MO_setTokens (by decide) (Nat.le_of_ble_eq_true rfl) ?_
  refine am_B.run (hp := false) (sp := []) 200 rfl ?_
  refine am_B.put rfl rfl rfl m53 rfl (Nat.le_of_ble_eq_true rfl) rfl (fun q => by cases q) ?_
  have e53 : h.set 53 c_M0 = h := gs_id m53
  show am_B _ _ _ _ _ _ (h.set 53 c_M0) _ _
  rw [e53]
  refine am_B.run (hp := false) (sp := []) 200 rfl ?_
  refine am_B.callV (ci := 5) (n := 1) (as := [.int a]) rfl rfl rfl (mt_isPlace _ a _ m53 rfl) rfl rfl (by exact Nat.le_of_ble_eq_true rfl) rfl m53 rfl rfl (fun v h' z => ?_)
  obtain ⟨rfl, rfl⟩ := z
  refine am_B.if_ne rfl rfl (fun z => absurd rfl z) (fun _ => ?_)
  refine am_B.run (hp := false) (sp := []) 200 rfl ?_
  refine am_B.callV (ci := 5) (n := 1) (as := [.int (nI 1)]) rfl rfl rfl (mt_no 0 _ 1 _ m53 rfl) rfl rfl (by exact Nat.le_of_ble_eq_true rfl) rfl m53 rfl rfl (fun v h' z => ?_)
  obtain ⟨rfl, rfl⟩ := z
  exact am_B.iret rfl rfl rfl ⟨rfl, (mP.rf M).set53 rfl⟩
set_option maxRecDepth 100000 in
set_option maxHeartbeats 4000000 in
theorem mc_countB (h : am_H) (M : mF h) (x : Int32) (hx : xbad x 3) : am_Ct am_G0 m_MO_count 3 0 0 [.ref 53, .int x] h (fun v h' => v = some (.int (nI 0)) ∧ mP 1 h h') := by
  have m53 := M.2.1
  refine am_Ct.of (E := E_MO_count) e_MO_count (by decide) (Nat.le_of_ble_eq_true rfl) ?_
  refine am_B.run (hp := false) (sp := []) 200 rfl ?_
  refine am_B.put rfl rfl rfl m53 rfl (Nat.le_of_ble_eq_true rfl) rfl (fun q => by cases q) ?_
  have e53 : h.set 53 c_M0 = h := gs_id m53
  show am_B _ _ _ _ _ _ (h.set 53 c_M0) _ _
  rw [e53]
  refine am_B.run (hp := false) (sp := []) 200 rfl ?_
  refine am_B.callS (n := 3) (as := [.int x, .int (nI 0), .int (nI 2)]) rfl rfl rfl (mt_isIn0 0 _ x _ 3 (by decide) hx (by decide)) rfl rfl (by exact Nat.le_of_ble_eq_true rfl) rfl rfl rfl (fun v h' z => ?_)
  obtain ⟨rfl, rfl⟩ := z
  refine am_B.if_ne rfl rfl (fun z => absurd rfl z) (fun _ => ?_)
  refine am_B.run (hp := false) (sp := []) 200 rfl ?_
  refine am_B.callV (ci := 5) (n := 1) (as := [.int (nI 1)]) rfl rfl rfl (mt_no 0 _ 1 _ m53 rfl) rfl rfl (by exact Nat.le_of_ble_eq_true rfl) rfl m53 rfl rfl (fun v h' z => ?_)
  obtain ⟨rfl, rfl⟩ := z
  exact am_B.iret rfl rfl rfl ⟨rfl, (mP.rf M).set53 rfl⟩
set_option maxRecDepth 100000 in
set_option maxHeartbeats 4000000 in
theorem mc_count0 (h : am_H) (M : mF h) : am_Ct am_G0 m_MO_count 3 0 0 [.ref 53, .int (nI 0)] h (fun v h' => v = some (.int (nI 0)) ∧ mP 0 h h') := by
  have m53 := M.2.1
  refine am_Ct.of (E := E_MO_count) e_MO_count (by decide) (Nat.le_of_ble_eq_true rfl) ?_
  refine am_B.run (hp := false) (sp := []) 200 rfl ?_
  refine am_B.put rfl rfl rfl m53 rfl (Nat.le_of_ble_eq_true rfl) rfl (fun q => by cases q) ?_
  have e53 : h.set 53 c_M0 = h := gs_id m53
  show am_B _ _ _ _ _ _ (h.set 53 c_M0) _ _
  rw [e53]
  refine am_B.run (hp := false) (sp := []) 200 rfl ?_
  refine am_B.callS (n := 3) (as := [.int (nI 0), .int (nI 0), .int (nI 2)]) rfl rfl rfl (mt_isIn1 0 _ 0 3 _ (by decide) (by decide) (by decide)) rfl rfl (by exact Nat.le_of_ble_eq_true rfl) rfl rfl rfl (fun v h' z => ?_)
  obtain ⟨rfl, rfl⟩ := z
  refine am_B.if_ne rfl rfl (fun _ => ?_) (fun z => absurd z (by decide))
  refine am_B.run (hp := false) (sp := []) 200 rfl ?_
  refine am_B.if_ne rfl rfl (fun z => absurd rfl z) (fun _ => ?_)
  refine am_B.run (hp := false) (sp := []) 200 rfl ?_
  refine am_B.get rfl rfl rfl m53 rfl rfl ?_
  refine am_B.run (hp := false) (sp := []) 200 rfl ?_
  exact am_B.iret rfl rfl rfl ⟨rfl, mP.rf M⟩
set_option maxRecDepth 100000 in
set_option maxHeartbeats 4000000 in
theorem mc_count1 (h : am_H) (M : mF h) : am_Ct am_G0 m_MO_count 3 0 0 [.ref 53, .int (nI 1)] h (fun v h' => v = some (.int (nI 0)) ∧ mP 0 h h') := by
  have m53 := M.2.1
  refine am_Ct.of (E := E_MO_count) e_MO_count (by decide) (Nat.le_of_ble_eq_true rfl) ?_
  refine am_B.run (hp := false) (sp := []) 200 rfl ?_
  refine am_B.put rfl rfl rfl m53 rfl (Nat.le_of_ble_eq_true rfl) rfl (fun q => by cases q) ?_
  have e53 : h.set 53 c_M0 = h := gs_id m53
  show am_B _ _ _ _ _ _ (h.set 53 c_M0) _ _
  rw [e53]
  refine am_B.run (hp := false) (sp := []) 200 rfl ?_
  refine am_B.callS (n := 3) (as := [.int (nI 1), .int (nI 0), .int (nI 2)]) rfl rfl rfl (mt_isIn1 0 _ 1 3 _ (by decide) (by decide) (by decide)) rfl rfl (by exact Nat.le_of_ble_eq_true rfl) rfl rfl rfl (fun v h' z => ?_)
  obtain ⟨rfl, rfl⟩ := z
  refine am_B.if_ne rfl rfl (fun _ => ?_) (fun z => absurd z (by decide))
  refine am_B.run (hp := false) (sp := []) 200 rfl ?_
  refine am_B.if_ne rfl rfl (fun _ => ?_) (fun z => absurd z (by decide))
  refine am_B.run (hp := false) (sp := []) 200 rfl ?_
  refine am_B.icmp_ne rfl rfl (fun z => absurd rfl z) (fun _ => ?_)
  refine am_B.run (hp := false) (sp := []) 200 rfl ?_
  refine am_B.get rfl rfl rfl m53 rfl rfl ?_
  refine am_B.run (hp := false) (sp := []) 200 rfl ?_
  exact am_B.iret rfl rfl rfl ⟨rfl, mP.rf M⟩
set_option maxRecDepth 100000 in
set_option maxHeartbeats 4000000 in
theorem mc_count2 (h : am_H) (M : mF h) : am_Ct am_G0 m_MO_count 3 0 0 [.ref 53, .int (nI 2)] h (fun v h' => v = some (.int (nI 0)) ∧ mP 0 h h') := by
  have m53 := M.2.1
  refine am_Ct.of (E := E_MO_count) e_MO_count (by decide) (Nat.le_of_ble_eq_true rfl) ?_
  refine am_B.run (hp := false) (sp := []) 200 rfl ?_
  refine am_B.put rfl rfl rfl m53 rfl (Nat.le_of_ble_eq_true rfl) rfl (fun q => by cases q) ?_
  have e53 : h.set 53 c_M0 = h := gs_id m53
  show am_B _ _ _ _ _ _ (h.set 53 c_M0) _ _
  rw [e53]
  refine am_B.run (hp := false) (sp := []) 200 rfl ?_
  refine am_B.callS (n := 3) (as := [.int (nI 2), .int (nI 0), .int (nI 2)]) rfl rfl rfl (mt_isIn1 0 _ 2 3 _ (by decide) (by decide) (by decide)) rfl rfl (by exact Nat.le_of_ble_eq_true rfl) rfl rfl rfl (fun v h' z => ?_)
  obtain ⟨rfl, rfl⟩ := z
  refine am_B.if_ne rfl rfl (fun _ => ?_) (fun z => absurd z (by decide))
  refine am_B.run (hp := false) (sp := []) 200 rfl ?_
  refine am_B.if_ne rfl rfl (fun _ => ?_) (fun z => absurd z (by decide))
  refine am_B.run (hp := false) (sp := []) 200 rfl ?_
  refine am_B.icmp_ne rfl rfl (fun _ => ?_) (fun z => absurd z (by decide))
  refine am_B.run (hp := false) (sp := []) 200 rfl ?_
  refine am_B.get rfl rfl rfl m53 rfl rfl ?_
  refine am_B.run (hp := false) (sp := []) 200 rfl ?_
  exact am_B.iret rfl rfl rfl ⟨rfl, mP.rf M⟩
set_option maxRecDepth 100000 in
set_option maxHeartbeats 4000000 in
theorem mc_label (h : am_H) (M : mF h) (a : Int32) : am_Ct am_G0 m_MO_label 3 0 0 [.ref 53, .int a] h (fun v h' => v = some (.int (nI 0)) ∧ mP 1 h h') := by
  have m53 := M.2.1
  refine am_Ct.of (E := E_MO_label) e_MO_label (by decide) (Nat.le_of_ble_eq_true rfl) ?_
  refine am_B.run (hp := false) (sp := []) 200 rfl ?_
  refine am_B.put rfl rfl rfl m53 rfl (Nat.le_of_ble_eq_true rfl) rfl (fun q => by cases q) ?_
  have e53 : h.set 53 c_M0 = h := gs_id m53
  show am_B _ _ _ _ _ _ (h.set 53 c_M0) _ _
  rw [e53]
  refine am_B.run (hp := false) (sp := []) 200 rfl ?_
  refine am_B.callV (ci := 5) (n := 1) (as := [.int a]) rfl rfl rfl (mt_isTransition _ a _ m53 rfl) rfl rfl (by exact Nat.le_of_ble_eq_true rfl) rfl m53 rfl rfl (fun v h' z => ?_)
  obtain ⟨rfl, rfl⟩ := z
  refine am_B.if_eq rfl rfl (fun _ => ?_) (fun z => absurd rfl z)
  refine am_B.run (hp := false) (sp := []) 200 rfl ?_
  refine am_B.callV (ci := 5) (n := 1) (as := [.int (nI 1)]) rfl rfl rfl (mt_no 0 _ 1 _ m53 rfl) rfl rfl (by exact Nat.le_of_ble_eq_true rfl) rfl m53 rfl rfl (fun v h' z => ?_)
  obtain ⟨rfl, rfl⟩ := z
  exact am_B.iret rfl rfl rfl ⟨rfl, (mP.rf M).set53 rfl⟩
set_option maxRecDepth 100000 in
set_option maxHeartbeats 4000000 in
theorem mc_length (h : am_H) (M : mF h) (a : Int32) : am_Ct am_G0 m_MO_length 3 0 0 [.ref 53, .int a] h (fun v h' => v = some (.int (nI 0)) ∧ mP 1 h h') := by
  have m53 := M.2.1
  refine am_Ct.of (E := E_MO_length) e_MO_length (by decide) (Nat.le_of_ble_eq_true rfl) ?_
  refine am_B.run (hp := false) (sp := []) 200 rfl ?_
  refine am_B.put rfl rfl rfl m53 rfl (Nat.le_of_ble_eq_true rfl) rfl (fun q => by cases q) ?_
  have e53 : h.set 53 c_M0 = h := gs_id m53
  show am_B _ _ _ _ _ _ (h.set 53 c_M0) _ _
  rw [e53]
  refine am_B.run (hp := false) (sp := []) 200 rfl ?_
  refine am_B.callV (ci := 5) (n := 1) (as := [.int a]) rfl rfl rfl (mt_isTrace _ a _ m53 rfl) rfl rfl (by exact Nat.le_of_ble_eq_true rfl) rfl m53 rfl rfl (fun v h' z => ?_)
  obtain ⟨rfl, rfl⟩ := z
  refine am_B.if_eq rfl rfl (fun _ => ?_) (fun z => absurd rfl z)
  refine am_B.run (hp := false) (sp := []) 200 rfl ?_
  refine am_B.callV (ci := 5) (n := 1) (as := [.int (nI 1)]) rfl rfl rfl (mt_no 0 _ 1 _ m53 rfl) rfl rfl (by exact Nat.le_of_ble_eq_true rfl) rfl m53 rfl rfl (fun v h' z => ?_)
  obtain ⟨rfl, rfl⟩ := z
  exact am_B.iret rfl rfl rfl ⟨rfl, (mP.rf M).set53 rfl⟩
set_option maxRecDepth 100000 in
set_option maxHeartbeats 4000000 in
theorem mc_markings (h : am_H) (M : mF h) : am_Ct am_G0 m_MO_markings 3 0 0 [.ref 53] h (fun v h' => v = some (.int (nI 1)) ∧ mP 0 h h') := by
  have m53 := M.2.1
  refine am_Ct.of (E := E_MO_markings) e_MO_markings (by decide) (Nat.le_of_ble_eq_true rfl) ?_
  refine am_B.run (hp := false) (sp := []) 200 rfl ?_
  refine am_B.put rfl rfl rfl m53 rfl (Nat.le_of_ble_eq_true rfl) rfl (fun q => by cases q) ?_
  have e53 : h.set 53 c_M0 = h := gs_id m53
  show am_B _ _ _ _ _ _ (h.set 53 c_M0) _ _
  rw [e53]
  refine am_B.run (hp := false) (sp := []) 200 rfl ?_
  refine am_B.callV (ci := 5) (n := 0) (as := []) rfl rfl rfl (mt_look 0 h M) rfl rfl (by exact Nat.le_of_ble_eq_true rfl) rfl m53 rfl rfl (fun v h' z => ?_)
  obtain ⟨rfl, rfl⟩ := z
  refine am_B.run (hp := false) (sp := []) 200 rfl ?_
  refine am_B.get rfl rfl rfl (mL_53 M) rfl rfl ?_
  refine am_B.if_eq rfl rfl (fun _ => ?_) (fun z => absurd rfl z)
  refine am_B.run (hp := false) (sp := []) 200 rfl ?_
  refine am_B.get rfl rfl rfl (mL_53 M) rfl rfl ?_
  exact am_B.iret rfl rfl rfl ⟨rfl, mL_P M rfl⟩
set_option maxRecDepth 100000 in
set_option maxHeartbeats 4000000 in
theorem mc_tokensA (h : am_H) (M : mF h) (x y : Int32) (hx : xbad x 1) : am_Ct am_G0 m_MO_tokens 3 0 0 [.ref 53, .int x, .int y] h (fun v h' => v = some (.int (nI 0)) ∧ mP 2 h h') := by
  have m53 := M.2.1
  refine am_Ct.of (E := E_MO_tokens) e_MO_tokens (by decide) (Nat.le_of_ble_eq_true rfl) ?_
  refine am_B.run (hp := false) (sp := []) 200 rfl ?_
  refine am_B.callV (ci := 5) (n := 1) (as := [.int x]) rfl rfl rfl (mt_asks0 _ M x hx) rfl rfl (by exact Nat.le_of_ble_eq_true rfl) rfl m53 rfl rfl (fun v h' z => ?_)
  obtain ⟨rfl, rfl⟩ := z
  refine am_B.if_ne rfl rfl (fun z => absurd rfl z) (fun _ => ?_)
  refine am_B.run (hp := false) (sp := []) 200 rfl ?_
  exact am_B.iret rfl rfl rfl ⟨rfl, mL_P M rfl⟩
set_option maxRecDepth 100000 in
set_option maxHeartbeats 4000000 in
theorem mc_tokensB (h : am_H) (M : mF h) (y : Int32) : am_Ct am_G0 m_MO_tokens 3 0 0 [.ref 53, .int (nI 0), .int y] h (fun v h' => v = some (.int (nI 0)) ∧ mP 2 h h') := by
  have m53 := M.2.1
  refine am_Ct.of (E := E_MO_tokens) e_MO_tokens (by decide) (Nat.le_of_ble_eq_true rfl) ?_
  refine am_B.run (hp := false) (sp := []) 200 rfl ?_
  refine am_B.callV (ci := 5) (n := 1) (as := [.int (nI 0)]) rfl rfl rfl (mt_asks1 _ M) rfl rfl (by exact Nat.le_of_ble_eq_true rfl) rfl m53 rfl rfl (fun v h' z => ?_)
  obtain ⟨rfl, rfl⟩ := z
  refine am_B.if_ne rfl rfl (fun _ => ?_) (fun z => absurd z (by decide))
  refine am_B.run (hp := false) (sp := []) 200 rfl ?_
  refine am_B.callV (ci := 5) (n := 1) (as := [.int y]) rfl rfl rfl (mt_isPlace _ y _ (mL_53 M) rfl) rfl rfl (by exact Nat.le_of_ble_eq_true rfl) rfl (mL_53 M) rfl rfl (fun v h' z => ?_)
  obtain ⟨rfl, rfl⟩ := z
  refine am_B.if_eq rfl rfl (fun _ => ?_) (fun z => absurd rfl z)
  refine am_B.run (hp := false) (sp := []) 200 rfl ?_
  refine am_B.callV (ci := 5) (n := 1) (as := [.int (nI 2)]) rfl rfl rfl (mt_no 0 _ 2 _ (mL_53 M) rfl) rfl rfl (by exact Nat.le_of_ble_eq_true rfl) rfl (mL_53 M) rfl rfl (fun v h' z => ?_)
  obtain ⟨rfl, rfl⟩ := z
  exact am_B.iret rfl rfl rfl ⟨rfl, (mL_P (k := 0) M rfl).set53 rfl⟩
set_option maxRecDepth 100000 in
set_option maxHeartbeats 4000000 in
theorem mc_nextA (h : am_H) (M : mF h) (x y : Int32) (hx : xbad x 1) : am_Ct am_G0 m_MO_next 3 0 0 [.ref 53, .int x, .int y] h (fun v h' => v = some (.int (nI 0)) ∧ mP 2 h h') := by
  have m53 := M.2.1
  refine am_Ct.of (E := E_MO_next) e_MO_next (by decide) (Nat.le_of_ble_eq_true rfl) ?_
  refine am_B.run (hp := false) (sp := []) 200 rfl ?_
  refine am_B.callV (ci := 5) (n := 1) (as := [.int x]) rfl rfl rfl (mt_asks0 _ M x hx) rfl rfl (by exact Nat.le_of_ble_eq_true rfl) rfl m53 rfl rfl (fun v h' z => ?_)
  obtain ⟨rfl, rfl⟩ := z
  refine am_B.if_ne rfl rfl (fun z => absurd rfl z) (fun _ => ?_)
  refine am_B.run (hp := false) (sp := []) 200 rfl ?_
  exact am_B.iret rfl rfl rfl ⟨rfl, mL_P M rfl⟩
set_option maxRecDepth 100000 in
set_option maxHeartbeats 4000000 in
theorem mc_nextB (h : am_H) (M : mF h) (y : Int32) : am_Ct am_G0 m_MO_next 3 0 0 [.ref 53, .int (nI 0), .int y] h (fun v h' => v = some (.int (nI 0)) ∧ mP 2 h h') := by
  have m53 := M.2.1
  refine am_Ct.of (E := E_MO_next) e_MO_next (by decide) (Nat.le_of_ble_eq_true rfl) ?_
  refine am_B.run (hp := false) (sp := []) 200 rfl ?_
  refine am_B.callV (ci := 5) (n := 1) (as := [.int (nI 0)]) rfl rfl rfl (mt_asks1 _ M) rfl rfl (by exact Nat.le_of_ble_eq_true rfl) rfl m53 rfl rfl (fun v h' z => ?_)
  obtain ⟨rfl, rfl⟩ := z
  refine am_B.if_ne rfl rfl (fun _ => ?_) (fun z => absurd z (by decide))
  refine am_B.run (hp := false) (sp := []) 200 rfl ?_
  refine am_B.callV (ci := 5) (n := 1) (as := [.int y]) rfl rfl rfl (mt_isTransition _ y _ (mL_53 M) rfl) rfl rfl (by exact Nat.le_of_ble_eq_true rfl) rfl (mL_53 M) rfl rfl (fun v h' z => ?_)
  obtain ⟨rfl, rfl⟩ := z
  refine am_B.if_eq rfl rfl (fun _ => ?_) (fun z => absurd rfl z)
  refine am_B.run (hp := false) (sp := []) 200 rfl ?_
  refine am_B.callV (ci := 5) (n := 1) (as := [.int (nI 2)]) rfl rfl rfl (mt_no 0 _ 2 _ (mL_53 M) rfl) rfl rfl (by exact Nat.le_of_ble_eq_true rfl) rfl (mL_53 M) rfl rfl (fun v h' z => ?_)
  obtain ⟨rfl, rfl⟩ := z
  exact am_B.iret rfl rfl rfl ⟨rfl, (mL_P (k := 0) M rfl).set53 rfl⟩
set_option maxRecDepth 100000 in
set_option maxHeartbeats 4000000 in
theorem mc_enabledA (h : am_H) (M : mF h) (x : Int32) (hx : xbad x 1) : am_Ct am_G0 m_MO_enabled 3 0 0 [.ref 53, .int x] h (fun v h' => v = some (.int (nI 0)) ∧ mP 2 h h') := by
  have m53 := M.2.1
  refine am_Ct.of (E := E_MO_enabled) e_MO_enabled (by decide) (Nat.le_of_ble_eq_true rfl) ?_
  refine am_B.run (hp := false) (sp := []) 200 rfl ?_
  refine am_B.callV (ci := 5) (n := 1) (as := [.int x]) rfl rfl rfl (mt_asks0 _ M x hx) rfl rfl (by exact Nat.le_of_ble_eq_true rfl) rfl m53 rfl rfl (fun v h' z => ?_)
  obtain ⟨rfl, rfl⟩ := z
  refine am_B.if_eq rfl rfl (fun _ => ?_) (fun z => absurd rfl z)
  refine am_B.run (hp := false) (sp := []) 200 rfl ?_
  exact am_B.iret rfl rfl rfl ⟨rfl, mL_P M rfl⟩
set_option maxRecDepth 100000 in
set_option maxHeartbeats 4000000 in
theorem mc_enabled (h : am_H) (M : mF h) : am_Ct am_G0 m_MO_enabled 3 0 0 [.ref 53, .int (nI 0)] h (fun v h' => v = some (.int (nI 0)) ∧ mP 0 h h') := by
  have m53 := M.2.1
  refine am_Ct.of (E := E_MO_enabled) e_MO_enabled (by decide) (Nat.le_of_ble_eq_true rfl) ?_
  refine am_B.run (hp := false) (sp := []) 200 rfl ?_
  refine am_B.callV (ci := 5) (n := 1) (as := [.int (nI 0)]) rfl rfl rfl (mt_asks1 _ M) rfl rfl (by exact Nat.le_of_ble_eq_true rfl) rfl m53 rfl rfl (fun v h' z => ?_)
  obtain ⟨rfl, rfl⟩ := z
  refine am_B.if_eq rfl rfl (fun z => absurd z (by decide)) (fun _ => ?_)
  refine am_B.run (hp := false) (sp := []) 200 rfl ?_
  refine am_B.callV (ci := 5) (n := 1) (as := [.int (nI 0)]) rfl rfl rfl (mt_enabledIn 0 h M (nI 0)) rfl rfl (by exact Nat.le_of_ble_eq_true rfl) rfl (mL_53 M) rfl rfl (fun v h' z => ?_)
  obtain ⟨rfl, rfl⟩ := z
  refine am_B.run (hp := false) (sp := []) 200 rfl ?_
  exact am_B.iret rfl rfl rfl ⟨rfl, mL_P M rfl⟩
set_option maxRecDepth 100000 in
set_option maxHeartbeats 4000000 in
theorem mc_last (h : am_H) (M : mF h) : am_Ct am_G0 m_MO_last 3 0 0 [.ref 53] h (fun v h' => v = some (.int (nI 0)) ∧ mP 0 h h') := by
  have m53 := M.2.1
  refine am_Ct.of (E := E_MO_last) e_MO_last (by decide) (Nat.le_of_ble_eq_true rfl) ?_
  refine am_B.run (hp := false) (sp := []) 200 rfl ?_
  refine am_B.callV (ci := 5) (n := 1) (as := [.int (nI 0)]) rfl rfl rfl (mt_asks1 _ M) rfl rfl (by exact Nat.le_of_ble_eq_true rfl) rfl m53 rfl rfl (fun v h' z => ?_)
  obtain ⟨rfl, rfl⟩ := z
  refine am_B.if_eq rfl rfl (fun z => absurd z (by decide)) (fun _ => ?_)
  refine am_B.run (hp := false) (sp := []) 200 rfl ?_
  refine am_B.get rfl rfl rfl (mL_53 M) rfl rfl ?_
  refine am_B.callV (ci := 5) (n := 1) (as := [.int (nI 0)]) rfl rfl rfl (mt_numberOf 0 h M (nI 0)) rfl rfl (by exact Nat.le_of_ble_eq_true rfl) rfl (mL_53 M) rfl rfl (fun v h' z => ?_)
  obtain ⟨rfl, rfl⟩ := z
  refine am_B.run (hp := false) (sp := []) 200 rfl ?_
  exact am_B.iret rfl rfl rfl ⟨rfl, mL_P M rfl⟩
set_option maxRecDepth 100000 in
set_option maxHeartbeats 4000000 in
theorem mc_dead (h : am_H) (M : mF h) : am_Ct am_G0 m_MO_dead 3 0 0 [.ref 53] h (fun v h' => v = some (.int (nI 0)) ∧ mP 0 h h') := by
  have m53 := M.2.1
  refine am_Ct.of (E := E_MO_dead) e_MO_dead (by decide) (Nat.le_of_ble_eq_true rfl) ?_
  refine am_B.run (hp := false) (sp := []) 200 rfl ?_
  refine am_B.callV (ci := 5) (n := 1) (as := [.int (nI 0)]) rfl rfl rfl (mt_asks1 _ M) rfl rfl (by exact Nat.le_of_ble_eq_true rfl) rfl m53 rfl rfl (fun v h' z => ?_)
  obtain ⟨rfl, rfl⟩ := z
  refine am_B.if_ne rfl rfl (fun _ => ?_) (fun z => absurd z (by decide))
  refine am_B.run (hp := false) (sp := []) 200 rfl ?_
  refine am_B.get rfl rfl rfl (mL_53 M) rfl rfl ?_
  refine am_B.icmp_ge rfl rfl (fun z => absurd z (by decide)) (fun _ => ?_)
  refine am_B.run (hp := false) (sp := []) 200 rfl ?_
  refine am_B.get rfl rfl rfl (mL_53 M) rfl rfl ?_
  refine am_B.run (hp := false) (sp := []) 200 rfl ?_
  refine am_B.ald rfl (mL_63 M) (vp_n (show 0 < 200 by decide) rfl) rfl ?_
  rw [nI_clamp (show 0 < 2 ^ 31 by decide), upd_s]
  refine am_B.run (hp := false) (sp := []) 200 rfl ?_
  refine am_B.get rfl rfl rfl (mL_53 M) rfl rfl ?_
  refine am_B.icmp_eq rfl rfl (fun _ => ?_) (fun z => absurd rfl z)
  refine am_B.run (hp := false) (sp := []) 200 rfl ?_
  refine am_B.get rfl rfl rfl (mL_53 M) rfl rfl ?_
  refine am_B.icmp_ge rfl rfl (fun _ => ?_) (fun z => absurd (by decide) z)
  refine am_B.run (hp := false) (sp := []) 200 rfl ?_
  exact am_B.iret rfl rfl rfl ⟨congrArg (fun x => some (Value.int x)) (by decide : nI 0 + nI 0 = nI 0), mL_P M rfl⟩
set_option maxRecDepth 100000 in
set_option maxHeartbeats 4000000 in
theorem mc_live (h : am_H) (M : mF h) : am_Ct am_G0 m_MO_live 3 0 0 [.ref 53] h (fun v h' => v = some (.int (nI 0)) ∧ mP 0 h h') := by
  have m53 := M.2.1
  refine am_Ct.of (E := E_MO_live) e_MO_live (by decide) (Nat.le_of_ble_eq_true rfl) ?_
  refine am_B.run (hp := false) (sp := []) 200 rfl ?_
  refine am_B.callV (ci := 5) (n := 1) (as := [.int (nI 0)]) rfl rfl rfl (mt_asks1 _ M) rfl rfl (by exact Nat.le_of_ble_eq_true rfl) rfl m53 rfl rfl (fun v h' z => ?_)
  obtain ⟨rfl, rfl⟩ := z
  refine am_B.if_ne rfl rfl (fun _ => ?_) (fun z => absurd z (by decide))
  refine am_B.run (hp := false) (sp := []) 200 rfl ?_
  refine am_B.get rfl rfl rfl (mL_53 M) rfl rfl ?_
  refine am_B.icmp_ge rfl rfl (fun z => absurd z (by decide)) (fun _ => ?_)
  refine am_B.run (hp := false) (sp := []) 200 rfl ?_
  refine am_B.callV (ci := 5) (n := 1) (as := [.int (nI 0)]) rfl rfl rfl (mt_enabledIn 0 h M (nI 0)) rfl rfl (by exact Nat.le_of_ble_eq_true rfl) rfl (mL_53 M) rfl rfl (fun v h' z => ?_)
  obtain ⟨rfl, rfl⟩ := z
  refine am_B.run (hp := false) (sp := []) 200 rfl ?_
  refine am_B.get rfl rfl rfl (mL_53 M) rfl rfl ?_
  refine am_B.icmp_ge rfl rfl (fun _ => ?_) (fun z => absurd (by decide) z)
  refine am_B.run (hp := false) (sp := []) 200 rfl ?_
  exact am_B.iret rfl rfl rfl ⟨congrArg (fun x => some (Value.int x)) (by decide : nI 0 ||| nI 0 = nI 0), mL_P M rfl⟩
set_option maxRecDepth 100000 in
set_option maxHeartbeats 4000000 in
theorem mc_eventB (h : am_H) (M : mF h) (x : Int32) (hx : xbad x 6) : am_Ct am_G0 m_MO_event 3 0 0 [.ref 53, .int x] h (fun v h' => v = some (.int (nI 0)) ∧ mP 1 h h') := by
  have m53 := M.2.1
  refine am_Ct.of (E := E_MO_event) e_MO_event (by decide) (Nat.le_of_ble_eq_true rfl) ?_
  refine am_B.run (hp := false) (sp := []) 200 rfl ?_
  refine am_B.put rfl rfl rfl m53 rfl (Nat.le_of_ble_eq_true rfl) rfl (fun q => by cases q) ?_
  have e53 : h.set 53 c_M0 = h := gs_id m53
  show am_B _ _ _ _ _ _ (h.set 53 c_M0) _ _
  rw [e53]
  refine am_B.run (hp := false) (sp := []) 200 rfl ?_
  refine am_B.callS (n := 1) (as := [.int x]) rfl rfl rfl (mt_isLabel0 _ x hx) rfl rfl (by exact Nat.le_of_ble_eq_true rfl) rfl rfl rfl (fun v h' z => ?_)
  obtain ⟨rfl, rfl⟩ := z
  refine am_B.if_ne rfl rfl (fun z => absurd rfl z) (fun _ => ?_)
  refine am_B.run (hp := false) (sp := []) 200 rfl ?_
  refine am_B.callV (ci := 5) (n := 1) (as := [.int (nI 1)]) rfl rfl rfl (mt_no 0 _ 1 _ m53 rfl) rfl rfl (by exact Nat.le_of_ble_eq_true rfl) rfl m53 rfl rfl (fun v h' z => ?_)
  obtain ⟨rfl, rfl⟩ := z
  exact am_B.iret rfl rfl rfl ⟨rfl, (mP.rf M).set53 rfl⟩
set_option maxRecDepth 100000 in
set_option maxHeartbeats 4000000 in
theorem mc_event (h : am_H) (M : mF h) (l : Nat) (hl : l < 6) : am_Ct am_G0 m_MO_event 3 0 0 [.ref 53, .int (nI l)] h (fun v h' => v = some (.int (nI 1)) ∧ mP 0 h h') := by
  have m53 := M.2.1
  refine am_Ct.of (E := E_MO_event) e_MO_event (by decide) (Nat.le_of_ble_eq_true rfl) ?_
  refine am_B.run (hp := false) (sp := []) 200 rfl ?_
  refine am_B.put rfl rfl rfl m53 rfl (Nat.le_of_ble_eq_true rfl) rfl (fun q => by cases q) ?_
  have e53 : h.set 53 c_M0 = h := gs_id m53
  show am_B _ _ _ _ _ _ (h.set 53 c_M0) _ _
  rw [e53]
  refine am_B.run (hp := false) (sp := []) 200 rfl ?_
  refine am_B.callS (n := 1) (as := [.int (nI l)]) rfl rfl rfl (mt_isLabel1 _ l hl) rfl rfl (by exact Nat.le_of_ble_eq_true rfl) rfl rfl rfl (fun v h' z => ?_)
  obtain ⟨rfl, rfl⟩ := z
  refine am_B.if_ne rfl rfl (fun _ => ?_) (fun z => absurd z (by decide))
  refine am_B.run (hp := false) (sp := []) 200 rfl ?_
  refine am_B.get rfl rfl rfl m53 rfl rfl ?_
  refine am_B.run (hp := false) (sp := []) 200 rfl ?_
  refine am_B.icmp_ne rfl rfl (fun _ => ?_) (fun z => absurd z (by decide))
  refine am_B.run (hp := false) (sp := []) 200 rfl ?_
  refine am_B.get rfl rfl rfl m53 rfl rfl ?_
  refine am_B.run (hp := false) (sp := []) 200 rfl ?_
  refine am_B.get rfl rfl rfl m53 rfl rfl ?_
  refine am_B.run (hp := false) (sp := []) 200 rfl ?_
  refine am_B.ast rfl M.2.2.2.2.2.2.2.1 (vp_n (show 0 < 8 by decide) rfl) rfl ?_
  rw [nI_clamp (show 0 < 2 ^ 31 by decide)]
  refine am_B.run (hp := false) (sp := []) 200 rfl ?_
  refine am_B.get rfl rfl rfl (gs_n (by decide) m53) rfl rfl ?_
  refine am_B.run (hp := false) (sp := []) 200 rfl ?_
  refine am_B.put rfl rfl rfl (gs_n (by decide) m53) rfl (Nat.le_of_ble_eq_true rfl) rfl (fun q => by cases q) ?_
  refine am_B.run (hp := false) (sp := []) 200 rfl ?_
  refine am_B.get rfl rfl rfl (gs_s (gs_n (by decide) m53)) rfl rfl ?_
  exact am_B.iret rfl rfl rfl ⟨congrArg (fun x => some (Value.int x)) (by decide : nI 0 + nI 1 = nI 1), ((mP.rf M).set (by decide) _).set53 rfl⟩
set_option maxRecDepth 100000 in
set_option maxHeartbeats 4000000 in
theorem mc_storeB (h : am_H) (M : mF h) (x : Int32) (hx : xbad x 100) : am_Ct am_G0 m_MO_store 3 0 0 [.ref 53, .int x] h (fun v h' => v = some (.int (nI 0)) ∧ mP 1 h h') := by
  have m53 := M.2.1
  refine am_Ct.of (E := E_MO_store) e_MO_store (by decide) (Nat.le_of_ble_eq_true rfl) ?_
  refine am_B.run (hp := false) (sp := []) 200 rfl ?_
  refine am_B.put rfl rfl rfl m53 rfl (Nat.le_of_ble_eq_true rfl) rfl (fun q => by cases q) ?_
  have e53 : h.set 53 c_M0 = h := gs_id m53
  show am_B _ _ _ _ _ _ (h.set 53 c_M0) _ _
  rw [e53]
  refine am_B.run (hp := false) (sp := []) 200 rfl ?_
  refine am_B.callS (n := 3) (as := [.int x, .int (nI 0), .int (nI 99)]) rfl rfl rfl (mt_isIn0 0 _ x _ 100 (by decide) hx (by decide)) rfl rfl (by exact Nat.le_of_ble_eq_true rfl) rfl rfl rfl (fun v h' z => ?_)
  obtain ⟨rfl, rfl⟩ := z
  refine am_B.if_ne rfl rfl (fun z => absurd rfl z) (fun _ => ?_)
  refine am_B.run (hp := false) (sp := []) 200 rfl ?_
  refine am_B.callV (ci := 5) (n := 1) (as := [.int (nI 1)]) rfl rfl rfl (mt_no 0 _ 1 _ m53 rfl) rfl rfl (by exact Nat.le_of_ble_eq_true rfl) rfl m53 rfl rfl (fun v h' z => ?_)
  obtain ⟨rfl, rfl⟩ := z
  exact am_B.iret rfl rfl rfl ⟨rfl, (mP.rf M).set53 rfl⟩
set_option maxRecDepth 100000 in
set_option maxHeartbeats 4000000 in
theorem mc_store (h : am_H) (M : mF h) (k : Nat) (hk : k < 100) : am_Ct am_G0 m_MO_store 3 0 0 [.ref 53, .int (nI k)] h (fun v h' => v = some (.int (nI 0)) ∧ mP 0 h h') := by
  have m53 := M.2.1
  refine am_Ct.of (E := E_MO_store) e_MO_store (by decide) (Nat.le_of_ble_eq_true rfl) ?_
  refine am_B.run (hp := false) (sp := []) 200 rfl ?_
  refine am_B.put rfl rfl rfl m53 rfl (Nat.le_of_ble_eq_true rfl) rfl (fun q => by cases q) ?_
  have e53 : h.set 53 c_M0 = h := gs_id m53
  show am_B _ _ _ _ _ _ (h.set 53 c_M0) _ _
  rw [e53]
  refine am_B.run (hp := false) (sp := []) 200 rfl ?_
  refine am_B.callS (n := 3) (as := [.int (nI k), .int (nI 0), .int (nI 99)]) rfl rfl rfl (mt_isIn1 0 _ k 100 _ (by decide) hk (by decide)) rfl rfl (by exact Nat.le_of_ble_eq_true rfl) rfl rfl rfl (fun v h' z => ?_)
  obtain ⟨rfl, rfl⟩ := z
  refine am_B.if_ne rfl rfl (fun _ => ?_) (fun z => absurd z (by decide))
  refine am_B.run (hp := false) (sp := []) 200 rfl ?_
  refine am_B.get rfl rfl rfl m53 rfl rfl ?_
  refine am_B.run (hp := false) (sp := []) 200 rfl ?_
  refine am_B.icmp_ne rfl rfl (fun _ => ?_) (fun z => absurd z (by decide))
  refine am_B.run (hp := false) (sp := []) 200 rfl ?_
  refine am_B.get rfl rfl rfl m53 rfl rfl ?_
  refine am_B.run (hp := false) (sp := []) 200 rfl ?_
  refine am_B.get rfl rfl rfl m53 rfl rfl ?_
  refine am_B.run (hp := false) (sp := []) 200 rfl ?_
  refine am_B.ast rfl M.2.2.2.2.2.2.2.2.1 (vp_n (show 0 < 8 by decide) rfl) rfl ?_
  rw [nI_clamp (show 0 < 2 ^ 31 by decide)]
  refine am_B.run (hp := false) (sp := []) 200 rfl ?_
  refine am_B.get rfl rfl rfl (gs_n (by decide) m53) rfl rfl ?_
  refine am_B.run (hp := false) (sp := []) 200 rfl ?_
  refine am_B.get rfl rfl rfl (gs_n (by decide) m53) rfl rfl ?_
  refine am_B.run (hp := false) (sp := []) 200 rfl ?_
  refine am_B.get rfl rfl rfl (gs_n (by decide) m53) rfl rfl ?_
  refine am_B.ast rfl (gs_n (by decide) M.2.2.2.2.2.2.2.2.2.1) (vp_n (show 0 < 8 by decide) rfl) rfl ?_
  rw [nI_clamp (show 0 < 2 ^ 31 by decide)]
  refine am_B.run (hp := false) (sp := []) 200 rfl ?_
  refine am_B.get rfl rfl rfl (gs_n (by decide) (gs_n (by decide) m53)) rfl rfl ?_
  refine am_B.icmp_ge rfl rfl (fun _ => ?_) (fun z => absurd (by decide) z)
  refine am_B.run (hp := false) (sp := []) 200 rfl ?_
  refine am_B.put rfl rfl rfl (gs_n (by decide) (gs_n (by decide) m53)) rfl (Nat.le_of_ble_eq_true rfl) rfl (fun q => by cases q) ?_
  refine am_B.run (hp := false) (sp := []) 200 rfl ?_
  refine am_B.get rfl rfl rfl (gs_s (gs_n (by decide) (gs_n (by decide) m53))) rfl rfl ?_
  refine am_B.run (hp := false) (sp := []) 200 rfl ?_
  refine am_B.put rfl rfl rfl (gs_s (gs_n (by decide) (gs_n (by decide) m53))) rfl (Nat.le_of_ble_eq_true rfl) rfl (fun q => by cases q) ?_
  rw [gs_ss]
  refine am_B.run (hp := false) (sp := []) 200 rfl ?_
  refine am_B.get rfl rfl rfl (gs_s (gs_n (by decide) (gs_n (by decide) m53))) rfl rfl ?_
  refine am_B.run (hp := false) (sp := []) 200 rfl ?_
  exact am_B.iret rfl rfl rfl ⟨congrArg (fun x => some (Value.int x)) (by decide : nI 0 + nI 1 - nI 1 = nI 0), (((mP.rf M).set (by decide) _).set (by decide) _).set53 rfl⟩
set_option maxRecDepth 100000 in
set_option maxHeartbeats 4000000 in
theorem mc_dropTrace (h : am_H) (M : mF h) : am_Ct am_G0 m_MO_dropTrace 3 0 0 [.ref 53] h (fun v h' => v = some (.int (nI 0)) ∧ mP 1 h h') := by
  have m53 := M.2.1
  refine am_Ct.of (E := E_MO_dropTrace) e_MO_dropTrace (by decide) (Nat.le_of_ble_eq_true rfl) ?_
  refine am_B.run (hp := false) (sp := []) 200 rfl ?_
  refine am_B.put rfl rfl rfl m53 rfl (Nat.le_of_ble_eq_true rfl) rfl (fun q => by cases q) ?_
  have e53 : h.set 53 c_M0 = h := gs_id m53
  show am_B _ _ _ _ _ _ (h.set 53 c_M0) _ _
  rw [e53]
  refine am_B.run (hp := false) (sp := []) 200 rfl ?_
  refine am_B.get rfl rfl rfl m53 rfl rfl ?_
  refine am_B.if_ne rfl rfl (fun z => absurd rfl z) (fun _ => ?_)
  refine am_B.run (hp := false) (sp := []) 200 rfl ?_
  refine am_B.callV (ci := 5) (n := 1) (as := [.int (nI 1)]) rfl rfl rfl (mt_no 0 _ 1 _ m53 rfl) rfl rfl (by exact Nat.le_of_ble_eq_true rfl) rfl m53 rfl rfl (fun v h' z => ?_)
  obtain ⟨rfl, rfl⟩ := z
  exact am_B.iret rfl rfl rfl ⟨rfl, (mP.rf M).set53 rfl⟩
set_option maxRecDepth 100000 in
set_option maxHeartbeats 4000000 in
theorem mc_setLabelCostA (h : am_H) (M : mF h) (x y : Int32) (hx : xbad x 6) : am_Ct am_G0 m_MO_setLabelCost 3 0 0 [.ref 53, .int x, .int y] h (fun v h' => v = some (.int (nI 0)) ∧ mP 1 h h') := by
  have m53 := M.2.1
  refine am_Ct.of (E := E_MO_setLabelCost) e_MO_setLabelCost (by decide) (Nat.le_of_ble_eq_true rfl) ?_
  refine am_B.run (hp := false) (sp := []) 200 rfl ?_
  refine am_B.put rfl rfl rfl m53 rfl (Nat.le_of_ble_eq_true rfl) rfl (fun q => by cases q) ?_
  have e53 : h.set 53 c_M0 = h := gs_id m53
  show am_B _ _ _ _ _ _ (h.set 53 c_M0) _ _
  rw [e53]
  refine am_B.run (hp := false) (sp := []) 200 rfl ?_
  refine am_B.callS (n := 1) (as := [.int x]) rfl rfl rfl (mt_isLabel0 _ x hx) rfl rfl (by exact Nat.le_of_ble_eq_true rfl) rfl rfl rfl (fun v h' z => ?_)
  obtain ⟨rfl, rfl⟩ := z
  refine am_B.if_ne rfl rfl (fun z => absurd rfl z) (fun _ => ?_)
  refine am_B.run (hp := false) (sp := []) 200 rfl ?_
  refine am_B.callV (ci := 5) (n := 1) (as := [.int (nI 1)]) rfl rfl rfl (mt_no 0 _ 1 _ m53 rfl) rfl rfl (by exact Nat.le_of_ble_eq_true rfl) rfl m53 rfl rfl (fun v h' z => ?_)
  obtain ⟨rfl, rfl⟩ := z
  exact am_B.iret rfl rfl rfl ⟨rfl, (mP.rf M).set53 rfl⟩
set_option maxRecDepth 100000 in
set_option maxHeartbeats 4000000 in
theorem mc_setLabelCostB (h : am_H) (M : mF h) (l : Nat) (hl : l < 6) (y : Int32) (hy : xbad y 10) : am_Ct am_G0 m_MO_setLabelCost 3 0 0 [.ref 53, .int (nI l), .int y] h (fun v h' => v = some (.int (nI 0)) ∧ mP 2 h h') := by
  have m53 := M.2.1
  refine am_Ct.of (E := E_MO_setLabelCost) e_MO_setLabelCost (by decide) (Nat.le_of_ble_eq_true rfl) ?_
  refine am_B.run (hp := false) (sp := []) 200 rfl ?_
  refine am_B.put rfl rfl rfl m53 rfl (Nat.le_of_ble_eq_true rfl) rfl (fun q => by cases q) ?_
  have e53 : h.set 53 c_M0 = h := gs_id m53
  show am_B _ _ _ _ _ _ (h.set 53 c_M0) _ _
  rw [e53]
  refine am_B.run (hp := false) (sp := []) 200 rfl ?_
  refine am_B.callS (n := 1) (as := [.int (nI l)]) rfl rfl rfl (mt_isLabel1 _ l hl) rfl rfl (by exact Nat.le_of_ble_eq_true rfl) rfl rfl rfl (fun v h' z => ?_)
  obtain ⟨rfl, rfl⟩ := z
  refine am_B.if_ne rfl rfl (fun _ => ?_) (fun z => absurd z (by decide))
  refine am_B.run (hp := false) (sp := []) 200 rfl ?_
  refine am_B.callS (n := 3) (as := [.int y, .int (nI 0), .int (nI 9)]) rfl rfl rfl (mt_isIn0 0 _ y _ 10 (by decide) hy (by decide)) rfl rfl (by exact Nat.le_of_ble_eq_true rfl) rfl rfl rfl (fun v h' z => ?_)
  obtain ⟨rfl, rfl⟩ := z
  refine am_B.if_ne rfl rfl (fun z => absurd rfl z) (fun _ => ?_)
  refine am_B.run (hp := false) (sp := []) 200 rfl ?_
  refine am_B.callV (ci := 5) (n := 1) (as := [.int (nI 2)]) rfl rfl rfl (mt_no 0 _ 2 _ m53 rfl) rfl rfl (by exact Nat.le_of_ble_eq_true rfl) rfl m53 rfl rfl (fun v h' z => ?_)
  obtain ⟨rfl, rfl⟩ := z
  exact am_B.iret rfl rfl rfl ⟨rfl, (mP.rf M).set53 rfl⟩
set_option maxRecDepth 100000 in
set_option maxHeartbeats 4000000 in
theorem mc_setLabelCost (h : am_H) (M : mF h) (l : Nat) (hl : l < 6) (c : Nat) (hc : c < 10) : am_Ct am_G0 m_MO_setLabelCost 3 0 0 [.ref 53, .int (nI l), .int (nI c)] h (fun v h' => v = some (.int (nI 1)) ∧ mP 0 h h') := by
  have m53 := M.2.1
  refine am_Ct.of (E := E_MO_setLabelCost) e_MO_setLabelCost (by decide) (Nat.le_of_ble_eq_true rfl) ?_
  refine am_B.run (hp := false) (sp := []) 200 rfl ?_
  refine am_B.put rfl rfl rfl m53 rfl (Nat.le_of_ble_eq_true rfl) rfl (fun q => by cases q) ?_
  have e53 : h.set 53 c_M0 = h := gs_id m53
  show am_B _ _ _ _ _ _ (h.set 53 c_M0) _ _
  rw [e53]
  refine am_B.run (hp := false) (sp := []) 200 rfl ?_
  refine am_B.callS (n := 1) (as := [.int (nI l)]) rfl rfl rfl (mt_isLabel1 _ l hl) rfl rfl (by exact Nat.le_of_ble_eq_true rfl) rfl rfl rfl (fun v h' z => ?_)
  obtain ⟨rfl, rfl⟩ := z
  refine am_B.if_ne rfl rfl (fun _ => ?_) (fun z => absurd z (by decide))
  refine am_B.run (hp := false) (sp := []) 200 rfl ?_
  refine am_B.callS (n := 3) (as := [.int (nI c), .int (nI 0), .int (nI 9)]) rfl rfl rfl (mt_isIn1 0 _ c 10 _ (by decide) hc (by decide)) rfl rfl (by exact Nat.le_of_ble_eq_true rfl) rfl rfl rfl (fun v h' z => ?_)
  obtain ⟨rfl, rfl⟩ := z
  refine am_B.if_ne rfl rfl (fun _ => ?_) (fun z => absurd z (by decide))
  refine am_B.run (hp := false) (sp := []) 200 rfl ?_
  refine am_B.get rfl rfl rfl m53 rfl rfl ?_
  refine am_B.run (hp := false) (sp := []) 200 rfl ?_
  refine am_B.ald rfl M.2.2.2.2.2.2.1 (vp_n hl rfl) rfl ?_
  rw [nI_clamp (show l < 2 ^ 31 by omega), one6_at hl]
  refine am_B.run (hp := false) (sp := []) 200 rfl ?_
  refine am_B.get rfl rfl rfl m53 rfl rfl ?_
  refine am_B.run (hp := false) (sp := []) 200 rfl ?_
  refine am_B.ast rfl M.2.2.2.2.2.2.1 (vp_n hl rfl) rfl ?_
  refine am_B.run (hp := false) (sp := []) 200 rfl ?_
  exact am_B.iret rfl rfl rfl ⟨rfl, (mP.rf M).set (by decide) _⟩
set_option maxRecDepth 100000 in
set_option maxHeartbeats 4000000 in
theorem mc_setCost (h : am_H) (M : mF h) (a b : Int32) : am_Ct am_G0 m_MO_setCost 3 0 0 [.ref 53, .int a, .int b] h (fun v h' => v = some (.int (nI 0)) ∧ mP 1 h h') := by
  have m53 := M.2.1
  refine am_Ct.of (E := E_MO_setCost) e_MO_setCost (by decide) (Nat.le_of_ble_eq_true rfl) ?_
  refine am_B.run (hp := false) (sp := []) 200 rfl ?_
  refine am_B.put rfl rfl rfl m53 rfl (Nat.le_of_ble_eq_true rfl) rfl (fun q => by cases q) ?_
  have e53 : h.set 53 c_M0 = h := gs_id m53
  show am_B _ _ _ _ _ _ (h.set 53 c_M0) _ _
  rw [e53]
  refine am_B.run (hp := false) (sp := []) 200 rfl ?_
  refine am_B.callV (ci := 5) (n := 1) (as := [.int a]) rfl rfl rfl (mt_isTransition _ a _ m53 rfl) rfl rfl (by exact Nat.le_of_ble_eq_true rfl) rfl m53 rfl rfl (fun v h' z => ?_)
  obtain ⟨rfl, rfl⟩ := z
  refine am_B.if_ne rfl rfl (fun z => absurd rfl z) (fun _ => ?_)
  refine am_B.run (hp := false) (sp := []) 200 rfl ?_
  refine am_B.callV (ci := 5) (n := 1) (as := [.int (nI 1)]) rfl rfl rfl (mt_no 0 _ 1 _ m53 rfl) rfl rfl (by exact Nat.le_of_ble_eq_true rfl) rfl m53 rfl rfl (fun v h' z => ?_)
  obtain ⟨rfl, rfl⟩ := z
  exact am_B.iret rfl rfl rfl ⟨rfl, (mP.rf M).set53 rfl⟩
set_option maxRecDepth 100000 in
set_option maxHeartbeats 4000000 in
theorem mc_cost (h : am_H) (M : mF h) (a : Int32) : am_Ct am_G0 m_MO_cost 3 0 0 [.ref 53, .int a] h (fun v h' => v = some (.int (nI 0)) ∧ mP 1 h h') := by
  have m53 := M.2.1
  refine am_Ct.of (E := E_MO_cost) e_MO_cost (by decide) (Nat.le_of_ble_eq_true rfl) ?_
  refine am_B.run (hp := false) (sp := []) 200 rfl ?_
  refine am_B.callV (ci := 5) (n := 1) (as := [.int a]) rfl rfl rfl (mt_asksTrace _ M a) rfl rfl (by exact Nat.le_of_ble_eq_true rfl) rfl m53 rfl rfl (fun v h' z => ?_)
  obtain ⟨rfl, rfl⟩ := z
  refine am_B.if_eq rfl rfl (fun _ => ?_) (fun z => absurd rfl z)
  refine am_B.run (hp := false) (sp := []) 200 rfl ?_
  exact am_B.iret rfl rfl rfl ⟨rfl, mL_P M rfl⟩
set_option maxRecDepth 100000 in
set_option maxHeartbeats 4000000 in
theorem mc_moves (h : am_H) (M : mF h) (a : Int32) : am_Ct am_G0 m_MO_moves 3 0 0 [.ref 53, .int a] h (fun v h' => v = some (.int (nI 0)) ∧ mP 1 h h') := by
  have m53 := M.2.1
  refine am_Ct.of (E := E_MO_moves) e_MO_moves (by decide) (Nat.le_of_ble_eq_true rfl) ?_
  refine am_B.run (hp := false) (sp := []) 200 rfl ?_
  refine am_B.callV (ci := 5) (n := 1) (as := [.int a]) rfl rfl rfl (mt_asksTrace _ M a) rfl rfl (by exact Nat.le_of_ble_eq_true rfl) rfl m53 rfl rfl (fun v h' z => ?_)
  obtain ⟨rfl, rfl⟩ := z
  refine am_B.if_eq rfl rfl (fun _ => ?_) (fun z => absurd rfl z)
  refine am_B.run (hp := false) (sp := []) 200 rfl ?_
  exact am_B.iret rfl rfl rfl ⟨rfl, mL_P M rfl⟩
set_option maxRecDepth 100000 in
set_option maxHeartbeats 4000000 in
theorem mc_worst (h : am_H) (M : mF h) (a : Int32) : am_Ct am_G0 m_MO_worst 3 0 0 [.ref 53, .int a] h (fun v h' => v = some (.int (nI 0)) ∧ mP 1 h h') := by
  have m53 := M.2.1
  refine am_Ct.of (E := E_MO_worst) e_MO_worst (by decide) (Nat.le_of_ble_eq_true rfl) ?_
  refine am_B.run (hp := false) (sp := []) 200 rfl ?_
  refine am_B.callV (ci := 5) (n := 1) (as := [.int a]) rfl rfl rfl (mt_asksTrace _ M a) rfl rfl (by exact Nat.le_of_ble_eq_true rfl) rfl m53 rfl rfl (fun v h' z => ?_)
  obtain ⟨rfl, rfl⟩ := z
  refine am_B.if_eq rfl rfl (fun _ => ?_) (fun z => absurd rfl z)
  refine am_B.run (hp := false) (sp := []) 200 rfl ?_
  exact am_B.iret rfl rfl rfl ⟨rfl, mL_P M rfl⟩
set_option maxRecDepth 100000 in
set_option maxHeartbeats 4000000 in
theorem mc_move (h : am_H) (M : mF h) (a b c : Int32) : am_Ct am_G0 m_MO_move 3 0 0 [.ref 53, .int a, .int b, .int c] h (fun v h' => v = some (.int (nI 0)) ∧ mP 1 h h') := by
  have m53 := M.2.1
  refine am_Ct.of (E := E_MO_move) e_MO_move (by decide) (Nat.le_of_ble_eq_true rfl) ?_
  refine am_B.run (hp := false) (sp := []) 200 rfl ?_
  refine am_B.callV (ci := 5) (n := 1) (as := [.int a]) rfl rfl rfl (mt_asksTrace _ M a) rfl rfl (by exact Nat.le_of_ble_eq_true rfl) rfl m53 rfl rfl (fun v h' z => ?_)
  obtain ⟨rfl, rfl⟩ := z
  refine am_B.if_ne rfl rfl (fun z => absurd rfl z) (fun _ => ?_)
  refine am_B.run (hp := false) (sp := []) 200 rfl ?_
  exact am_B.iret rfl rfl rfl ⟨rfl, mL_P M rfl⟩
set_option maxRecDepth 100000 in
set_option maxHeartbeats 4000000 in
theorem mc_fitness (h : am_H) (M : mF h) (a : Int32) : am_Ct am_G0 m_MO_fitness 3 0 0 [.ref 53, .int a] h (fun v h' => (∃ d, v = some (.double d)) ∧ mP 1 h h') := by
  have m53 := M.2.1
  refine am_Ct.of (E := E_MO_fitness) e_MO_fitness (by decide) (Nat.le_of_ble_eq_true rfl) ?_
  refine am_B.run (hp := false) (sp := []) 200 rfl ?_
  refine am_B.callV (ci := 5) (n := 1) (as := [.int a]) rfl rfl rfl (mt_asksTrace _ M a) rfl rfl (by exact Nat.le_of_ble_eq_true rfl) rfl m53 rfl rfl (fun v h' z => ?_)
  obtain ⟨rfl, rfl⟩ := z
  refine am_B.if_ne rfl rfl (fun z => absurd rfl z) (fun _ => ?_)
  refine am_B.run (hp := false) (sp := []) 200 rfl ?_
  exact am_B.dret rfl rfl rfl ⟨⟨_, rfl⟩, mL_P M rfl⟩
set_option maxRecDepth 100000 in
set_option maxHeartbeats 4000000 in
theorem mc_totalA (h : am_H) (M : mF h) (a b : Int32) (ha : xbad a 3) : am_Ct am_G0 m_MO_total 3 0 0 [.ref 53, .int a, .int b] h (fun v h' => v = some (.int (nI 0)) ∧ mP 1 h h') := by
  have m53 := M.2.1
  refine am_Ct.of (E := E_MO_total) e_MO_total (by decide) (Nat.le_of_ble_eq_true rfl) ?_
  refine am_B.run (hp := false) (sp := []) 200 rfl ?_
  refine am_B.callV (ci := 5) (n := 0) (as := []) rfl rfl rfl (mt_look 0 h M) rfl rfl (by exact Nat.le_of_ble_eq_true rfl) rfl m53 rfl rfl (fun v h' z => ?_)
  obtain ⟨rfl, rfl⟩ := z
  refine am_B.run (hp := false) (sp := []) 200 rfl ?_
  refine am_B.callS (n := 3) (as := [.int a, .int (nI 0), .int (nI 2)]) rfl rfl rfl (mt_isIn0 0 _ a _ 3 (by decide) ha (by decide)) rfl rfl (by exact Nat.le_of_ble_eq_true rfl) rfl rfl rfl (fun v h' z => ?_)
  obtain ⟨rfl, rfl⟩ := z
  refine am_B.if_eq rfl rfl (fun _ => ?_) (fun z => absurd rfl z)
  refine am_B.run (hp := false) (sp := []) 200 rfl ?_
  refine am_B.if_ne rfl rfl (fun z => absurd rfl z) (fun _ => ?_)
  refine am_B.run (hp := false) (sp := []) 200 rfl ?_
  refine am_B.put rfl rfl rfl (mL_53 M) rfl (Nat.le_of_ble_eq_true rfl) rfl (fun q => by cases q) ?_
  rw [mL_s]
  refine am_B.run (hp := false) (sp := []) 200 rfl ?_
  refine am_B.get rfl rfl rfl (mL_53 M) rfl rfl ?_
  refine am_B.if_eq rfl rfl (fun z => absurd z (by decide)) (fun _ => ?_)
  refine am_B.run (hp := false) (sp := []) 200 rfl ?_
  exact am_B.iret rfl rfl rfl ⟨rfl, mL_P M rfl⟩
set_option maxRecDepth 100000 in
set_option maxHeartbeats 4000000 in
theorem mc_totalT0 (h : am_H) (M : mF h) (b : Int32) : am_Ct am_G0 m_MO_total 3 0 0 [.ref 53, .int (nI 0), .int b] h (fun v h' => v = some (.int (nI 0)) ∧ mP 1 h h') := by
  have m53 := M.2.1
  refine am_Ct.of (E := E_MO_total) e_MO_total (by decide) (Nat.le_of_ble_eq_true rfl) ?_
  refine am_B.run (hp := false) (sp := []) 200 rfl ?_
  refine am_B.callV (ci := 5) (n := 0) (as := []) rfl rfl rfl (mt_look 0 h M) rfl rfl (by exact Nat.le_of_ble_eq_true rfl) rfl m53 rfl rfl (fun v h' z => ?_)
  obtain ⟨rfl, rfl⟩ := z
  refine am_B.run (hp := false) (sp := []) 200 rfl ?_
  refine am_B.callS (n := 3) (as := [.int (nI 0), .int (nI 0), .int (nI 2)]) rfl rfl rfl (mt_isIn1 0 _ 0 3 _ (by decide) (by decide) (by decide)) rfl rfl (by exact Nat.le_of_ble_eq_true rfl) rfl rfl rfl (fun v h' z => ?_)
  obtain ⟨rfl, rfl⟩ := z
  refine am_B.if_eq rfl rfl (fun z => absurd z (by decide)) (fun _ => ?_)
  refine am_B.run (hp := false) (sp := []) 200 rfl ?_
  refine am_B.icmp_ne rfl rfl (fun _ => ?_) (fun z => absurd z (by decide))
  refine am_B.run (hp := false) (sp := []) 200 rfl ?_
  refine am_B.callV (ci := 5) (n := 1) (as := [.int b]) rfl rfl rfl (mt_isTransition _ b _ (mL_53 M) rfl) rfl rfl (by exact Nat.le_of_ble_eq_true rfl) rfl (mL_53 M) rfl rfl (fun v h' z => ?_)
  obtain ⟨rfl, rfl⟩ := z
  refine am_B.if_eq rfl rfl (fun _ => ?_) (fun z => absurd rfl z)
  refine am_B.run (hp := false) (sp := []) 200 rfl ?_
  refine am_B.if_ne rfl rfl (fun z => absurd rfl z) (fun _ => ?_)
  refine am_B.run (hp := false) (sp := []) 200 rfl ?_
  refine am_B.put rfl rfl rfl (mL_53 M) rfl (Nat.le_of_ble_eq_true rfl) rfl (fun q => by cases q) ?_
  rw [mL_s]
  refine am_B.run (hp := false) (sp := []) 200 rfl ?_
  refine am_B.get rfl rfl rfl (mL_53 M) rfl rfl ?_
  refine am_B.if_eq rfl rfl (fun z => absurd z (by decide)) (fun _ => ?_)
  refine am_B.run (hp := false) (sp := []) 200 rfl ?_
  exact am_B.iret rfl rfl rfl ⟨rfl, mL_P M rfl⟩
set_option maxRecDepth 100000 in
set_option maxHeartbeats 4000000 in
theorem mc_totalT2 (h : am_H) (M : mF h) (b : Int32) : am_Ct am_G0 m_MO_total 3 0 0 [.ref 53, .int (nI 2), .int b] h (fun v h' => v = some (.int (nI 0)) ∧ mP 1 h h') := by
  have m53 := M.2.1
  refine am_Ct.of (E := E_MO_total) e_MO_total (by decide) (Nat.le_of_ble_eq_true rfl) ?_
  refine am_B.run (hp := false) (sp := []) 200 rfl ?_
  refine am_B.callV (ci := 5) (n := 0) (as := []) rfl rfl rfl (mt_look 0 h M) rfl rfl (by exact Nat.le_of_ble_eq_true rfl) rfl m53 rfl rfl (fun v h' z => ?_)
  obtain ⟨rfl, rfl⟩ := z
  refine am_B.run (hp := false) (sp := []) 200 rfl ?_
  refine am_B.callS (n := 3) (as := [.int (nI 2), .int (nI 0), .int (nI 2)]) rfl rfl rfl (mt_isIn1 0 _ 2 3 _ (by decide) (by decide) (by decide)) rfl rfl (by exact Nat.le_of_ble_eq_true rfl) rfl rfl rfl (fun v h' z => ?_)
  obtain ⟨rfl, rfl⟩ := z
  refine am_B.if_eq rfl rfl (fun z => absurd z (by decide)) (fun _ => ?_)
  refine am_B.run (hp := false) (sp := []) 200 rfl ?_
  refine am_B.icmp_ne rfl rfl (fun _ => ?_) (fun z => absurd z (by decide))
  refine am_B.run (hp := false) (sp := []) 200 rfl ?_
  refine am_B.callV (ci := 5) (n := 1) (as := [.int b]) rfl rfl rfl (mt_isTransition _ b _ (mL_53 M) rfl) rfl rfl (by exact Nat.le_of_ble_eq_true rfl) rfl (mL_53 M) rfl rfl (fun v h' z => ?_)
  obtain ⟨rfl, rfl⟩ := z
  refine am_B.if_eq rfl rfl (fun _ => ?_) (fun z => absurd rfl z)
  refine am_B.run (hp := false) (sp := []) 200 rfl ?_
  refine am_B.if_ne rfl rfl (fun z => absurd rfl z) (fun _ => ?_)
  refine am_B.run (hp := false) (sp := []) 200 rfl ?_
  refine am_B.put rfl rfl rfl (mL_53 M) rfl (Nat.le_of_ble_eq_true rfl) rfl (fun q => by cases q) ?_
  rw [mL_s]
  refine am_B.run (hp := false) (sp := []) 200 rfl ?_
  refine am_B.get rfl rfl rfl (mL_53 M) rfl rfl ?_
  refine am_B.if_eq rfl rfl (fun z => absurd z (by decide)) (fun _ => ?_)
  refine am_B.run (hp := false) (sp := []) 200 rfl ?_
  exact am_B.iret rfl rfl rfl ⟨rfl, mL_P M rfl⟩
set_option maxRecDepth 100000 in
set_option maxHeartbeats 4000000 in
theorem mc_totalL (h : am_H) (M : mF h) (b : Int32) (hb : xbad b 6) : am_Ct am_G0 m_MO_total 3 0 0 [.ref 53, .int (nI 1), .int b] h (fun v h' => v = some (.int (nI 0)) ∧ mP 1 h h') := by
  have m53 := M.2.1
  refine am_Ct.of (E := E_MO_total) e_MO_total (by decide) (Nat.le_of_ble_eq_true rfl) ?_
  refine am_B.run (hp := false) (sp := []) 200 rfl ?_
  refine am_B.callV (ci := 5) (n := 0) (as := []) rfl rfl rfl (mt_look 0 h M) rfl rfl (by exact Nat.le_of_ble_eq_true rfl) rfl m53 rfl rfl (fun v h' z => ?_)
  obtain ⟨rfl, rfl⟩ := z
  refine am_B.run (hp := false) (sp := []) 200 rfl ?_
  refine am_B.callS (n := 3) (as := [.int (nI 1), .int (nI 0), .int (nI 2)]) rfl rfl rfl (mt_isIn1 0 _ 1 3 _ (by decide) (by decide) (by decide)) rfl rfl (by exact Nat.le_of_ble_eq_true rfl) rfl rfl rfl (fun v h' z => ?_)
  obtain ⟨rfl, rfl⟩ := z
  refine am_B.if_eq rfl rfl (fun z => absurd z (by decide)) (fun _ => ?_)
  refine am_B.run (hp := false) (sp := []) 200 rfl ?_
  refine am_B.icmp_ne rfl rfl (fun z => absurd rfl z) (fun _ => ?_)
  refine am_B.run (hp := false) (sp := []) 200 rfl ?_
  refine am_B.callS (n := 1) (as := [.int b]) rfl rfl rfl (mt_isLabel0 _ b hb) rfl rfl (by exact Nat.le_of_ble_eq_true rfl) rfl rfl rfl (fun v h' z => ?_)
  obtain ⟨rfl, rfl⟩ := z
  refine am_B.if_eq rfl rfl (fun _ => ?_) (fun z => absurd rfl z)
  refine am_B.run (hp := false) (sp := []) 200 rfl ?_
  refine am_B.if_ne rfl rfl (fun z => absurd rfl z) (fun _ => ?_)
  refine am_B.run (hp := false) (sp := []) 200 rfl ?_
  refine am_B.put rfl rfl rfl (mL_53 M) rfl (Nat.le_of_ble_eq_true rfl) rfl (fun q => by cases q) ?_
  rw [mL_s]
  refine am_B.run (hp := false) (sp := []) 200 rfl ?_
  refine am_B.get rfl rfl rfl (mL_53 M) rfl rfl ?_
  refine am_B.if_eq rfl rfl (fun z => absurd z (by decide)) (fun _ => ?_)
  refine am_B.run (hp := false) (sp := []) 200 rfl ?_
  exact am_B.iret rfl rfl rfl ⟨rfl, mL_P M rfl⟩
set_option maxRecDepth 100000 in
set_option maxHeartbeats 4000000 in
theorem mc_total (h : am_H) (M : mF h) (l : Nat) (hl : l < 6) : am_Ct am_G0 m_MO_total 3 0 0 [.ref 53, .int (nI 1), .int (nI l)] h (fun v h' => v = some (.int (nI 0)) ∧ mP 0 h h') := by
  have m53 := M.2.1
  refine am_Ct.of (E := E_MO_total) e_MO_total (by decide) (Nat.le_of_ble_eq_true rfl) ?_
  refine am_B.run (hp := false) (sp := []) 200 rfl ?_
  refine am_B.callV (ci := 5) (n := 0) (as := []) rfl rfl rfl (mt_look 0 h M) rfl rfl (by exact Nat.le_of_ble_eq_true rfl) rfl m53 rfl rfl (fun v h' z => ?_)
  obtain ⟨rfl, rfl⟩ := z
  refine am_B.run (hp := false) (sp := []) 200 rfl ?_
  refine am_B.callS (n := 3) (as := [.int (nI 1), .int (nI 0), .int (nI 2)]) rfl rfl rfl (mt_isIn1 0 _ 1 3 _ (by decide) (by decide) (by decide)) rfl rfl (by exact Nat.le_of_ble_eq_true rfl) rfl rfl rfl (fun v h' z => ?_)
  obtain ⟨rfl, rfl⟩ := z
  refine am_B.if_eq rfl rfl (fun z => absurd z (by decide)) (fun _ => ?_)
  refine am_B.run (hp := false) (sp := []) 200 rfl ?_
  refine am_B.icmp_ne rfl rfl (fun z => absurd rfl z) (fun _ => ?_)
  refine am_B.run (hp := false) (sp := []) 200 rfl ?_
  refine am_B.callS (n := 1) (as := [.int (nI l)]) rfl rfl rfl (mt_isLabel1 _ l hl) rfl rfl (by exact Nat.le_of_ble_eq_true rfl) rfl rfl rfl (fun v h' z => ?_)
  obtain ⟨rfl, rfl⟩ := z
  refine am_B.if_eq rfl rfl (fun z => absurd z (by decide)) (fun _ => ?_)
  refine am_B.run (hp := false) (sp := []) 200 rfl ?_
  refine am_B.if_ne rfl rfl (fun _ => ?_) (fun z => absurd z (by decide))
  refine am_B.run (hp := false) (sp := []) 200 rfl ?_
  refine am_B.get rfl rfl rfl (mL_53 M) rfl rfl ?_
  refine am_B.if_eq rfl rfl (fun _ => ?_) (fun z => absurd rfl z)
  refine am_B.run (hp := false) (sp := []) 200 rfl ?_
  refine am_B.put rfl rfl rfl (mL_53 M) rfl (Nat.le_of_ble_eq_true rfl) rfl (fun q => by cases q) ?_
  rw [mL_s]
  refine am_B.run (hp := false) (sp := []) 200 rfl ?_
  refine am_B.get rfl rfl rfl (mL_53 M) rfl rfl ?_
  refine am_B.if_eq rfl rfl (fun _ => ?_) (fun z => absurd rfl z)
  refine am_B.run (hp := false) (sp := []) 200 rfl ?_
  refine am_B.get rfl rfl rfl (mL_53 M) rfl rfl ?_
  refine am_B.icmp_ge rfl rfl (fun _ => ?_) (fun z => absurd (by decide) z)
  refine am_B.run (hp := false) (sp := []) 200 rfl ?_
  exact am_B.iret rfl rfl rfl ⟨rfl, mL_P M rfl⟩
set_option maxRecDepth 100000 in
set_option maxHeartbeats 4000000 in
theorem mc_allFitness (h : am_H) (M : mF h) : am_Ct am_G0 m_MO_allFitness 3 0 0 [.ref 53] h (fun v h' => v = some (.double FP.dconst1) ∧ mP 0 h h') := by
  have m53 := M.2.1
  refine am_Ct.of (E := E_MO_allFitness) e_MO_allFitness (by decide) (Nat.le_of_ble_eq_true rfl) ?_
  refine am_B.run (hp := false) (sp := []) 200 rfl ?_
  refine am_B.callV (ci := 5) (n := 1) (as := [.int (nI 0)]) rfl rfl rfl (mt_asks1 _ M) rfl rfl (by exact Nat.le_of_ble_eq_true rfl) rfl m53 rfl rfl (fun v h' z => ?_)
  obtain ⟨rfl, rfl⟩ := z
  refine am_B.if_ne rfl rfl (fun _ => ?_) (fun z => absurd z (by decide))
  refine am_B.run (hp := false) (sp := []) 200 rfl ?_
  refine am_B.get rfl rfl rfl (mL_53 M) rfl rfl ?_
  refine am_B.icmp_ge rfl rfl (fun _ => ?_) (fun z => absurd (by decide) z)
  refine am_B.run (hp := false) (sp := []) 200 rfl ?_
  refine am_B.if_ne rfl rfl (fun z => absurd rfl z) (fun _ => ?_)
  refine am_B.run (hp := false) (sp := []) 200 rfl ?_
  exact am_B.dret rfl rfl rfl ⟨rfl, mL_P M rfl⟩
