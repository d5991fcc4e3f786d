/-! THE FRESH ALIGNER's methods that answer -/
theorem xF.e12 {h : am_H} (X : xF h) : (hE h)[12]? = some (z_ 2000) := n4_12 (by have := X.1; omega)
theorem xF.eo {h : am_H} {k : Nat} {x : am_C} (hk : k < 9 ∨ 12 < k) (hx : h[k]? = some x) : (hE h)[k]? = some x := (n4_o (by omega) (by omega) (by omega) (by omega)).trans hx
set_option maxRecDepth 100000 in
set_option maxHeartbeats 4000000 in
theorem xx_markings (h : am_H) (X : xF h) : am_Ct am_G0 m_TA_markings 2 0 0 [.ref 1] h (fun v h' => v = some (.int (nI 1)) ∧ h' = hE h) := by
  have h1 := X.2.1
  have h9 := X.2.2.2.2.2.2.2.1
  have e1 := X.e1
  have e9 := X.e9
  refine am_Ct.of (E := E_TA_markings) e_TA_markings (by decide) (Nat.le_of_ble_eq_true rfl) ?_
  refine am_B.run (hp := false) (sp := []) 200 rfl ?_
  refine am_B.get rfl rfl rfl (by first | assumption | exact gs_s (by first | assumption | exact gs_s (by first | assumption | exact gs_s (by assumption) | (refine gs_n (by decide) ?_; assumption)) | (refine gs_n (by decide) ?_; first | assumption | exact gs_s (by assumption) | (refine gs_n (by decide) ?_; assumption))) | (refine gs_n (by decide) ?_; first | assumption | exact gs_s (by first | assumption | exact gs_s (by assumption) | (refine gs_n (by decide) ?_; assumption)) | (refine gs_n (by decide) ?_; first | assumption | exact gs_s (by assumption) | (refine gs_n (by decide) ?_; assumption)))) rfl rfl ?_
  refine am_B.callV (ci := 2) (n := 0) (as := []) rfl rfl rfl X.explore rfl rfl (by exact Nat.le_of_ble_eq_true rfl) rfl h9 rfl rfl (fun v h' z => ?_)
  obtain ⟨rfl, rfl⟩ := z
  refine am_B.run (hp := false) (sp := []) 200 rfl ?_
  refine am_B.get rfl rfl rfl (by first | assumption | exact gs_s (by first | assumption | exact gs_s (by first | assumption | exact gs_s (by assumption) | (refine gs_n (by decide) ?_; assumption)) | (refine gs_n (by decide) ?_; first | assumption | exact gs_s (by assumption) | (refine gs_n (by decide) ?_; assumption))) | (refine gs_n (by decide) ?_; first | assumption | exact gs_s (by first | assumption | exact gs_s (by assumption) | (refine gs_n (by decide) ?_; assumption)) | (refine gs_n (by decide) ?_; first | assumption | exact gs_s (by assumption) | (refine gs_n (by decide) ?_; assumption)))) rfl rfl ?_
  refine am_B.get rfl rfl rfl (by first | assumption | exact gs_s (by first | assumption | exact gs_s (by first | assumption | exact gs_s (by assumption) | (refine gs_n (by decide) ?_; assumption)) | (refine gs_n (by decide) ?_; first | assumption | exact gs_s (by assumption) | (refine gs_n (by decide) ?_; assumption))) | (refine gs_n (by decide) ?_; first | assumption | exact gs_s (by first | assumption | exact gs_s (by assumption) | (refine gs_n (by decide) ?_; assumption)) | (refine gs_n (by decide) ?_; first | assumption | exact gs_s (by assumption) | (refine gs_n (by decide) ?_; assumption)))) rfl rfl ?_
  exact am_B.iret rfl rfl rfl ⟨rfl, rfl⟩
set_option maxRecDepth 100000 in
set_option maxHeartbeats 4000000 in
theorem xx_last (h : am_H) (X : xF h) : am_Ct am_G0 m_TA_last 3 0 0 [.ref 1] h (fun v h' => v = some (.int (nI 0)) ∧ h' = hE h) := by
  have h1 := X.2.1
  have e1 := X.e1
  have e9 := X.e9
  refine am_Ct.of (E := E_TA_last) e_TA_last (by decide) (Nat.le_of_ble_eq_true rfl) ?_
  refine am_B.run (hp := false) (sp := []) 200 rfl ?_
  refine am_B.callV (ci := 0) (n := 0) (as := []) rfl rfl rfl (xt_requireMarkings h X) rfl rfl (by exact Nat.le_of_ble_eq_true rfl) rfl h1 rfl rfl (fun v h' z => ?_)
  obtain ⟨rfl, rfl⟩ := z
  refine am_B.run (hp := false) (sp := []) 200 rfl ?_
  refine am_B.get rfl rfl rfl (by first | assumption | exact gs_s (by first | assumption | exact gs_s (by first | assumption | exact gs_s (by assumption) | (refine gs_n (by decide) ?_; assumption)) | (refine gs_n (by decide) ?_; first | assumption | exact gs_s (by assumption) | (refine gs_n (by decide) ?_; assumption))) | (refine gs_n (by decide) ?_; first | assumption | exact gs_s (by first | assumption | exact gs_s (by assumption) | (refine gs_n (by decide) ?_; assumption)) | (refine gs_n (by decide) ?_; first | assumption | exact gs_s (by assumption) | (refine gs_n (by decide) ?_; assumption)))) rfl rfl ?_
  refine am_B.get rfl rfl rfl (by first | assumption | exact gs_s (by first | assumption | exact gs_s (by first | assumption | exact gs_s (by assumption) | (refine gs_n (by decide) ?_; assumption)) | (refine gs_n (by decide) ?_; first | assumption | exact gs_s (by assumption) | (refine gs_n (by decide) ?_; assumption))) | (refine gs_n (by decide) ?_; first | assumption | exact gs_s (by first | assumption | exact gs_s (by assumption) | (refine gs_n (by decide) ?_; assumption)) | (refine gs_n (by decide) ?_; first | assumption | exact gs_s (by assumption) | (refine gs_n (by decide) ?_; assumption)))) rfl rfl ?_
  exact am_B.iret rfl rfl rfl ⟨rfl, rfl⟩
set_option maxRecDepth 100000 in
set_option maxHeartbeats 4000000 in
theorem xx_enabled0 (h : am_H) (X : xF h) : am_Ct am_G0 m_TA_enabled 3 0 0 [.ref 1, .int (nI 0)] h (fun v h' => v = some (.int (nI 0)) ∧ h' = hE h) := by
  have h1 := X.2.1
  have e1 := X.e1
  have e9 := X.e9
  have e11 := X.e11
  refine am_Ct.of (E := E_TA_enabled) e_TA_enabled (by decide) (Nat.le_of_ble_eq_true rfl) ?_
  refine am_B.run (hp := false) (sp := []) 200 rfl ?_
  refine am_B.callV (ci := 0) (n := 0) (as := []) rfl rfl rfl (xt_requireMarkings h X) rfl rfl (by exact Nat.le_of_ble_eq_true rfl) rfl h1 rfl rfl (fun v h' z => ?_)
  obtain ⟨rfl, rfl⟩ := z
  refine am_B.run (hp := false) (sp := []) 200 rfl ?_
  refine am_B.callV (ci := 0) (n := 1) (as := [.int (nI 0)]) rfl rfl rfl (ct_TA_requireMarking 0 _ 0 1 (nI 0) (nI 0) (nI 1) (nI 0) (by decide) (by decide) X.e1 X.e9) rfl rfl (by exact Nat.le_of_ble_eq_true rfl) rfl X.e1 rfl rfl (fun v h' z => ?_)
  obtain ⟨rfl, rfl⟩ := z
  refine am_B.run (hp := false) (sp := []) 200 rfl ?_
  refine am_B.get rfl rfl rfl (by first | assumption | exact gs_s (by first | assumption | exact gs_s (by first | assumption | exact gs_s (by assumption) | (refine gs_n (by decide) ?_; assumption)) | (refine gs_n (by decide) ?_; first | assumption | exact gs_s (by assumption) | (refine gs_n (by decide) ?_; assumption))) | (refine gs_n (by decide) ?_; first | assumption | exact gs_s (by first | assumption | exact gs_s (by assumption) | (refine gs_n (by decide) ?_; assumption)) | (refine gs_n (by decide) ?_; first | assumption | exact gs_s (by assumption) | (refine gs_n (by decide) ?_; assumption)))) rfl rfl ?_
  refine am_B.get rfl rfl rfl (by first | assumption | exact gs_s (by first | assumption | exact gs_s (by first | assumption | exact gs_s (by assumption) | (refine gs_n (by decide) ?_; assumption)) | (refine gs_n (by decide) ?_; first | assumption | exact gs_s (by assumption) | (refine gs_n (by decide) ?_; assumption))) | (refine gs_n (by decide) ?_; first | assumption | exact gs_s (by first | assumption | exact gs_s (by assumption) | (refine gs_n (by decide) ?_; assumption)) | (refine gs_n (by decide) ?_; first | assumption | exact gs_s (by assumption) | (refine gs_n (by decide) ?_; assumption)))) rfl rfl ?_
  refine am_B.run (hp := false) (sp := []) 200 rfl ?_
  refine am_B.ald rfl e11 (vp_n (show 0 < 200 by decide) rfl) rfl ?_
  rw [nI_clamp (show 0 < 2 ^ 31 by decide), upd_s]
  exact am_B.iret rfl rfl rfl ⟨rfl, rfl⟩
set_option maxRecDepth 100000 in
set_option maxHeartbeats 4000000 in
theorem xx_dead (h : am_H) (X : xF h) : am_Ct am_G0 m_TA_dead 3 0 0 [.ref 1] h (fun v h' => v = some (.int (nI 0)) ∧ h' = hE h) := by
  have h1 := X.2.1
  have e1 := X.e1
  have e9 := X.e9
  refine am_Ct.of (E := E_TA_dead) e_TA_dead (by decide) (Nat.le_of_ble_eq_true rfl) ?_
  refine am_B.run (hp := false) (sp := []) 200 rfl ?_
  refine am_B.callV (ci := 0) (n := 0) (as := []) rfl rfl rfl (xt_requireMarkings h X) rfl rfl (by exact Nat.le_of_ble_eq_true rfl) rfl h1 rfl rfl (fun v h' z => ?_)
  obtain ⟨rfl, rfl⟩ := z
  refine am_B.run (hp := false) (sp := []) 200 rfl ?_
  refine am_B.get rfl rfl rfl (by first | assumption | exact gs_s (by first | assumption | exact gs_s (by first | assumption | exact gs_s (by assumption) | (refine gs_n (by decide) ?_; assumption)) | (refine gs_n (by decide) ?_; first | assumption | exact gs_s (by assumption) | (refine gs_n (by decide) ?_; assumption))) | (refine gs_n (by decide) ?_; first | assumption | exact gs_s (by first | assumption | exact gs_s (by assumption) | (refine gs_n (by decide) ?_; assumption)) | (refine gs_n (by decide) ?_; first | assumption | exact gs_s (by assumption) | (refine gs_n (by decide) ?_; assumption)))) rfl rfl ?_
  refine am_B.get rfl rfl rfl (by first | assumption | exact gs_s (by first | assumption | exact gs_s (by first | assumption | exact gs_s (by assumption) | (refine gs_n (by decide) ?_; assumption)) | (refine gs_n (by decide) ?_; first | assumption | exact gs_s (by assumption) | (refine gs_n (by decide) ?_; assumption))) | (refine gs_n (by decide) ?_; first | assumption | exact gs_s (by first | assumption | exact gs_s (by assumption) | (refine gs_n (by decide) ?_; assumption)) | (refine gs_n (by decide) ?_; first | assumption | exact gs_s (by assumption) | (refine gs_n (by decide) ?_; assumption)))) rfl rfl ?_
  refine am_B.icmp_ge rfl rfl (fun z => absurd z (by decide)) (fun _ => ?_)
  refine am_B.run (hp := false) (sp := []) 200 rfl ?_
  refine am_B.get rfl rfl rfl (by first | assumption | exact gs_s (by first | assumption | exact gs_s (by first | assumption | exact gs_s (by assumption) | (refine gs_n (by decide) ?_; assumption)) | (refine gs_n (by decide) ?_; first | assumption | exact gs_s (by assumption) | (refine gs_n (by decide) ?_; assumption))) | (refine gs_n (by decide) ?_; first | assumption | exact gs_s (by first | assumption | exact gs_s (by assumption) | (refine gs_n (by decide) ?_; assumption)) | (refine gs_n (by decide) ?_; first | assumption | exact gs_s (by assumption) | (refine gs_n (by decide) ?_; assumption)))) rfl rfl ?_
  refine am_B.get rfl rfl rfl (by first | assumption | exact gs_s (by first | assumption | exact gs_s (by first | assumption | exact gs_s (by assumption) | (refine gs_n (by decide) ?_; assumption)) | (refine gs_n (by decide) ?_; first | assumption | exact gs_s (by assumption) | (refine gs_n (by decide) ?_; assumption))) | (refine gs_n (by decide) ?_; first | assumption | exact gs_s (by first | assumption | exact gs_s (by assumption) | (refine gs_n (by decide) ?_; assumption)) | (refine gs_n (by decide) ?_; first | assumption | exact gs_s (by assumption) | (refine gs_n (by decide) ?_; assumption)))) rfl rfl ?_
  refine am_B.icmp_eq rfl rfl (fun _ => ?_) (fun z => absurd rfl z)
  refine am_B.run (hp := false) (sp := []) 200 rfl ?_
  refine am_B.get rfl rfl rfl (by first | assumption | exact gs_s (by first | assumption | exact gs_s (by first | assumption | exact gs_s (by assumption) | (refine gs_n (by decide) ?_; assumption)) | (refine gs_n (by decide) ?_; first | assumption | exact gs_s (by assumption) | (refine gs_n (by decide) ?_; assumption))) | (refine gs_n (by decide) ?_; first | assumption | exact gs_s (by first | assumption | exact gs_s (by assumption) | (refine gs_n (by decide) ?_; assumption)) | (refine gs_n (by decide) ?_; first | assumption | exact gs_s (by assumption) | (refine gs_n (by decide) ?_; assumption)))) rfl rfl ?_
  refine am_B.get rfl rfl rfl (by first | assumption | exact gs_s (by first | assumption | exact gs_s (by first | assumption | exact gs_s (by assumption) | (refine gs_n (by decide) ?_; assumption)) | (refine gs_n (by decide) ?_; first | assumption | exact gs_s (by assumption) | (refine gs_n (by decide) ?_; assumption))) | (refine gs_n (by decide) ?_; first | assumption | exact gs_s (by first | assumption | exact gs_s (by assumption) | (refine gs_n (by decide) ?_; assumption)) | (refine gs_n (by decide) ?_; first | assumption | exact gs_s (by assumption) | (refine gs_n (by decide) ?_; assumption)))) rfl rfl ?_
  refine am_B.icmp_ge rfl rfl (fun _ => ?_) (fun z => absurd (by decide) z)
  refine am_B.run (hp := false) (sp := []) 200 rfl ?_
  exact am_B.iret rfl rfl rfl ⟨rfl, rfl⟩
set_option maxRecDepth 100000 in
set_option maxHeartbeats 4000000 in
theorem xx_live (h : am_H) (X : xF h) : am_Ct am_G0 m_TA_live 3 0 0 [.ref 1] h (fun v h' => v = some (.int (nI 0)) ∧ h' = hE h) := by
  have h1 := X.2.1
  have e1 := X.e1
  have e9 := X.e9
  have e11 := X.e11
  refine am_Ct.of (E := E_TA_live) e_TA_live (by decide) (Nat.le_of_ble_eq_true rfl) ?_
  refine am_B.run (hp := false) (sp := []) 200 rfl ?_
  refine am_B.callV (ci := 0) (n := 0) (as := []) rfl rfl rfl (xt_requireMarkings h X) rfl rfl (by exact Nat.le_of_ble_eq_true rfl) rfl h1 rfl rfl (fun v h' z => ?_)
  obtain ⟨rfl, rfl⟩ := z
  refine am_B.run (hp := false) (sp := []) 200 rfl ?_
  refine am_B.get rfl rfl rfl (by first | assumption | exact gs_s (by first | assumption | exact gs_s (by first | assumption | exact gs_s (by assumption) | (refine gs_n (by decide) ?_; assumption)) | (refine gs_n (by decide) ?_; first | assumption | exact gs_s (by assumption) | (refine gs_n (by decide) ?_; assumption))) | (refine gs_n (by decide) ?_; first | assumption | exact gs_s (by first | assumption | exact gs_s (by assumption) | (refine gs_n (by decide) ?_; assumption)) | (refine gs_n (by decide) ?_; first | assumption | exact gs_s (by assumption) | (refine gs_n (by decide) ?_; assumption)))) rfl rfl ?_
  refine am_B.get rfl rfl rfl (by first | assumption | exact gs_s (by first | assumption | exact gs_s (by first | assumption | exact gs_s (by assumption) | (refine gs_n (by decide) ?_; assumption)) | (refine gs_n (by decide) ?_; first | assumption | exact gs_s (by assumption) | (refine gs_n (by decide) ?_; assumption))) | (refine gs_n (by decide) ?_; first | assumption | exact gs_s (by first | assumption | exact gs_s (by assumption) | (refine gs_n (by decide) ?_; assumption)) | (refine gs_n (by decide) ?_; first | assumption | exact gs_s (by assumption) | (refine gs_n (by decide) ?_; assumption)))) rfl rfl ?_
  refine am_B.icmp_ge rfl rfl (fun z => absurd z (by decide)) (fun _ => ?_)
  refine am_B.run (hp := false) (sp := []) 200 rfl ?_
  refine am_B.get rfl rfl rfl (by first | assumption | exact gs_s (by first | assumption | exact gs_s (by first | assumption | exact gs_s (by assumption) | (refine gs_n (by decide) ?_; assumption)) | (refine gs_n (by decide) ?_; first | assumption | exact gs_s (by assumption) | (refine gs_n (by decide) ?_; assumption))) | (refine gs_n (by decide) ?_; first | assumption | exact gs_s (by first | assumption | exact gs_s (by assumption) | (refine gs_n (by decide) ?_; assumption)) | (refine gs_n (by decide) ?_; first | assumption | exact gs_s (by assumption) | (refine gs_n (by decide) ?_; assumption)))) rfl rfl ?_
  refine am_B.get rfl rfl rfl (by first | assumption | exact gs_s (by first | assumption | exact gs_s (by first | assumption | exact gs_s (by assumption) | (refine gs_n (by decide) ?_; assumption)) | (refine gs_n (by decide) ?_; first | assumption | exact gs_s (by assumption) | (refine gs_n (by decide) ?_; assumption))) | (refine gs_n (by decide) ?_; first | assumption | exact gs_s (by first | assumption | exact gs_s (by assumption) | (refine gs_n (by decide) ?_; assumption)) | (refine gs_n (by decide) ?_; first | assumption | exact gs_s (by assumption) | (refine gs_n (by decide) ?_; assumption)))) rfl rfl ?_
  refine am_B.run (hp := false) (sp := []) 200 rfl ?_
  refine am_B.ald rfl e11 (vp_n (show 0 < 200 by decide) rfl) rfl ?_
  rw [nI_clamp (show 0 < 2 ^ 31 by decide), upd_s]
  refine am_B.run (hp := false) (sp := []) 200 rfl ?_
  refine am_B.get rfl rfl rfl (by first | assumption | exact gs_s (by first | assumption | exact gs_s (by first | assumption | exact gs_s (by assumption) | (refine gs_n (by decide) ?_; assumption)) | (refine gs_n (by decide) ?_; first | assumption | exact gs_s (by assumption) | (refine gs_n (by decide) ?_; assumption))) | (refine gs_n (by decide) ?_; first | assumption | exact gs_s (by first | assumption | exact gs_s (by assumption) | (refine gs_n (by decide) ?_; assumption)) | (refine gs_n (by decide) ?_; first | assumption | exact gs_s (by assumption) | (refine gs_n (by decide) ?_; assumption)))) rfl rfl ?_
  refine am_B.get rfl rfl rfl (by first | assumption | exact gs_s (by first | assumption | exact gs_s (by first | assumption | exact gs_s (by assumption) | (refine gs_n (by decide) ?_; assumption)) | (refine gs_n (by decide) ?_; first | assumption | exact gs_s (by assumption) | (refine gs_n (by decide) ?_; assumption))) | (refine gs_n (by decide) ?_; first | assumption | exact gs_s (by first | assumption | exact gs_s (by assumption) | (refine gs_n (by decide) ?_; assumption)) | (refine gs_n (by decide) ?_; first | assumption | exact gs_s (by assumption) | (refine gs_n (by decide) ?_; assumption)))) rfl rfl ?_
  refine am_B.icmp_ge rfl rfl (fun _ => ?_) (fun z => absurd (by decide) z)
  refine am_B.run (hp := false) (sp := []) 200 rfl ?_
  exact am_B.iret rfl rfl rfl ⟨rfl, rfl⟩
set_option maxRecDepth 100000 in
set_option maxHeartbeats 4000000 in
theorem xt_relaxOnce (f : Nat) (h : am_H) (a b : Nat) (ex la pc : Int32) (h2 : h[2]? = some (c_NT pc (nI 0))) (h9 : h[9]? = some (c_MG ex (nI 1) la)) : am_Ct am_G0 m_MG_relaxOnce f 0 0 [.ref 9, .ref a, .ref b] h (fun v h' => v = some (.int (nI 0)) ∧ h' = h) := by
  refine am_Ct.of (E := E_MG_relaxOnce) e_MG_relaxOnce (by decide) (Nat.le_of_ble_eq_true rfl) ?_
  refine am_B.run (hp := false) (sp := []) 200 rfl ?_
  refine am_B.get rfl rfl rfl (by first | assumption | exact gs_s (by first | assumption | exact gs_s (by first | assumption | exact gs_s (by assumption) | (refine gs_n (by decide) ?_; assumption)) | (refine gs_n (by decide) ?_; first | assumption | exact gs_s (by assumption) | (refine gs_n (by decide) ?_; assumption))) | (refine gs_n (by decide) ?_; first | assumption | exact gs_s (by first | assumption | exact gs_s (by assumption) | (refine gs_n (by decide) ?_; assumption)) | (refine gs_n (by decide) ?_; first | assumption | exact gs_s (by assumption) | (refine gs_n (by decide) ?_; assumption)))) rfl rfl ?_
  refine am_B.run (hp := false) (sp := []) 200 rfl ?_
  refine am_B.if_lt rfl rfl (fun z => absurd z (by decide)) (fun _ => ?_)
  refine am_B.run (hp := false) (sp := []) 200 rfl ?_
  refine am_B.get rfl rfl rfl (by first | assumption | exact gs_s (by first | assumption | exact gs_s (by first | assumption | exact gs_s (by assumption) | (refine gs_n (by decide) ?_; assumption)) | (refine gs_n (by decide) ?_; first | assumption | exact gs_s (by assumption) | (refine gs_n (by decide) ?_; assumption))) | (refine gs_n (by decide) ?_; first | assumption | exact gs_s (by first | assumption | exact gs_s (by assumption) | (refine gs_n (by decide) ?_; assumption)) | (refine gs_n (by decide) ?_; first | assumption | exact gs_s (by assumption) | (refine gs_n (by decide) ?_; assumption)))) rfl rfl ?_
  refine am_B.get rfl rfl rfl (by first | assumption | exact gs_s (by first | assumption | exact gs_s (by first | assumption | exact gs_s (by assumption) | (refine gs_n (by decide) ?_; assumption)) | (refine gs_n (by decide) ?_; first | assumption | exact gs_s (by assumption) | (refine gs_n (by decide) ?_; assumption))) | (refine gs_n (by decide) ?_; first | assumption | exact gs_s (by first | assumption | exact gs_s (by assumption) | (refine gs_n (by decide) ?_; assumption)) | (refine gs_n (by decide) ?_; first | assumption | exact gs_s (by assumption) | (refine gs_n (by decide) ?_; assumption)))) rfl rfl ?_
  refine am_B.icmp_ge rfl rfl (fun _ => ?_) (fun z => absurd (by decide) z)
  refine am_B.run (hp := false) (sp := []) 200 rfl ?_
  refine am_B.if_lt rfl rfl (fun _ => ?_) (fun z => absurd (by decide) z)
  refine am_B.run (hp := false) (sp := []) 200 rfl ?_
  exact am_B.zret rfl rfl rfl rfl ⟨rfl, rfl⟩
set_option maxRecDepth 100000 in
set_option maxHeartbeats 4000000 in
theorem xt_relax (h : am_H) (a b : Nat) (ex la pc : Int32) (h2 : h[2]? = some (c_NT pc (nI 0))) (h9 : h[9]? = some (c_MG ex (nI 1) la)) : am_Ct am_G0 m_MG_relax 1 0 0 [.ref 9, .ref a, .ref b] h (fun v h' => v = none ∧ h' = h) := by
  refine am_Ct.of (E := E_MG_relax) e_MG_relax (by decide) (Nat.le_of_ble_eq_true rfl) ?_
  refine am_B.run (hp := false) (sp := []) 200 rfl ?_
  refine am_B.get rfl rfl rfl (by first | assumption | exact gs_s (by first | assumption | exact gs_s (by first | assumption | exact gs_s (by assumption) | (refine gs_n (by decide) ?_; assumption)) | (refine gs_n (by decide) ?_; first | assumption | exact gs_s (by assumption) | (refine gs_n (by decide) ?_; assumption))) | (refine gs_n (by decide) ?_; first | assumption | exact gs_s (by first | assumption | exact gs_s (by assumption) | (refine gs_n (by decide) ?_; assumption)) | (refine gs_n (by decide) ?_; first | assumption | exact gs_s (by assumption) | (refine gs_n (by decide) ?_; assumption)))) rfl rfl ?_
  refine am_B.icmp_ge rfl rfl (fun z => absurd z (by decide)) (fun _ => ?_)
  refine am_B.run (hp := false) (sp := []) 200 rfl ?_
  refine am_B.callV (ci := 2) (n := 2) (as := [.ref a, .ref b]) rfl rfl rfl (xt_relaxOnce 0 h a b ex la pc h2 h9) rfl rfl (by exact Nat.le_of_ble_eq_true rfl) rfl h9 rfl rfl (fun v h' z => ?_)
  obtain ⟨rfl, rfl⟩ := z
  refine am_B.if_ne rfl rfl (fun z => absurd rfl z) (fun _ => ?_)
  exact am_B.vret rfl rfl rfl ⟨rfl, rfl⟩
set_option maxRecDepth 100000 in
set_option maxHeartbeats 4000000 in
theorem xt_weighEnd (h : am_H) (ex pc : Int32) (g : Nat → Int32) (h2 : h[2]? = some (c_NT pc (nI 0))) (h9 : h[9]? = some (c_MG ex (nI 1) (nI 0))) (h14 : h[14]? = some c_PF) (h17 : h[17]? = some (ia 200 g)) : am_Ct am_G0 m_PF_weighEnd 2 0 0 [.ref 14, .ref 17] h (fun v h' => v = none ∧ ∃ g', h' = h.set 17 (ia 200 g') ∧ g' 0 = nI 0) := by
  refine am_Ct.of (E := E_PF_weighEnd) e_PF_weighEnd (by decide) (Nat.le_of_ble_eq_true rfl) ?_
  refine am_B.run (hp := false) (sp := []) 200 rfl ?_
  refine am_B.callS (ci := 0) (n := 2) (as := [.ref 17, .int (nI 1073741824)]) rfl rfl rfl (ct_AR_fill 0 _ 17 200 g (nI 1073741824) h17 (by decide)) rfl rfl (by exact Nat.le_of_ble_eq_true rfl) rfl rfl rfl (fun v h' z => ?_)
  obtain ⟨rfl, rfl⟩ := z
  refine am_B.run (hp := false) (sp := []) 200 rfl ?_
  refine am_B.get rfl rfl rfl (by first | assumption | exact gs_s (by first | assumption | exact gs_s (by first | assumption | exact gs_s (by assumption) | (refine gs_n (by decide) ?_; assumption)) | (refine gs_n (by decide) ?_; first | assumption | exact gs_s (by assumption) | (refine gs_n (by decide) ?_; assumption))) | (refine gs_n (by decide) ?_; first | assumption | exact gs_s (by first | assumption | exact gs_s (by assumption) | (refine gs_n (by decide) ?_; assumption)) | (refine gs_n (by decide) ?_; first | assumption | exact gs_s (by assumption) | (refine gs_n (by decide) ?_; assumption)))) rfl rfl ?_
  refine am_B.get rfl rfl rfl (by first | assumption | exact gs_s (by first | assumption | exact gs_s (by first | assumption | exact gs_s (by assumption) | (refine gs_n (by decide) ?_; assumption)) | (refine gs_n (by decide) ?_; first | assumption | exact gs_s (by assumption) | (refine gs_n (by decide) ?_; assumption))) | (refine gs_n (by decide) ?_; first | assumption | exact gs_s (by first | assumption | exact gs_s (by assumption) | (refine gs_n (by decide) ?_; assumption)) | (refine gs_n (by decide) ?_; first | assumption | exact gs_s (by assumption) | (refine gs_n (by decide) ?_; assumption)))) rfl rfl ?_
  refine am_B.run (hp := false) (sp := []) 200 rfl ?_
  refine am_B.icmp_eq rfl rfl (fun z => absurd z (by decide)) (fun _ => ?_)
  refine am_B.run (hp := false) (sp := []) 200 rfl ?_
  refine am_B.get rfl rfl rfl (by first | assumption | exact gs_s (by first | assumption | exact gs_s (by first | assumption | exact gs_s (by assumption) | (refine gs_n (by decide) ?_; assumption)) | (refine gs_n (by decide) ?_; first | assumption | exact gs_s (by assumption) | (refine gs_n (by decide) ?_; assumption))) | (refine gs_n (by decide) ?_; first | assumption | exact gs_s (by first | assumption | exact gs_s (by assumption) | (refine gs_n (by decide) ?_; assumption)) | (refine gs_n (by decide) ?_; first | assumption | exact gs_s (by assumption) | (refine gs_n (by decide) ?_; assumption)))) rfl rfl ?_
  refine am_B.get rfl rfl rfl (by first | assumption | exact gs_s (by first | assumption | exact gs_s (by first | assumption | exact gs_s (by assumption) | (refine gs_n (by decide) ?_; assumption)) | (refine gs_n (by decide) ?_; first | assumption | exact gs_s (by assumption) | (refine gs_n (by decide) ?_; assumption))) | (refine gs_n (by decide) ?_; first | assumption | exact gs_s (by first | assumption | exact gs_s (by assumption) | (refine gs_n (by decide) ?_; assumption)) | (refine gs_n (by decide) ?_; first | assumption | exact gs_s (by assumption) | (refine gs_n (by decide) ?_; assumption)))) rfl rfl ?_
  refine am_B.run (hp := false) (sp := []) 200 rfl ?_
  refine am_B.ast rfl (gs_s h17) (vp_n (show 0 < 200 by decide) rfl) rfl ?_
  rw [nI_clamp (show 0 < 2 ^ 31 by decide), gs_ss]
  refine am_B.run (hp := false) (sp := []) 200 rfl ?_
  refine am_B.get rfl rfl rfl (by first | assumption | exact gs_s (by first | assumption | exact gs_s (by first | assumption | exact gs_s (by assumption) | (refine gs_n (by decide) ?_; assumption)) | (refine gs_n (by decide) ?_; first | assumption | exact gs_s (by assumption) | (refine gs_n (by decide) ?_; assumption))) | (refine gs_n (by decide) ?_; first | assumption | exact gs_s (by first | assumption | exact gs_s (by assumption) | (refine gs_n (by decide) ?_; assumption)) | (refine gs_n (by decide) ?_; first | assumption | exact gs_s (by assumption) | (refine gs_n (by decide) ?_; assumption)))) rfl rfl ?_
  refine am_B.run (hp := false) (sp := []) 200 rfl ?_
  refine am_B.get rfl rfl rfl (by first | assumption | exact gs_s (by first | assumption | exact gs_s (by first | assumption | exact gs_s (by assumption) | (refine gs_n (by decide) ?_; assumption)) | (refine gs_n (by decide) ?_; first | assumption | exact gs_s (by assumption) | (refine gs_n (by decide) ?_; assumption))) | (refine gs_n (by decide) ?_; first | assumption | exact gs_s (by first | assumption | exact gs_s (by assumption) | (refine gs_n (by decide) ?_; assumption)) | (refine gs_n (by decide) ?_; first | assumption | exact gs_s (by assumption) | (refine gs_n (by decide) ?_; assumption)))) rfl rfl ?_
  refine am_B.callV (ci := 2) (n := 2) (as := [.ref 17, .ref 15]) rfl rfl rfl (xt_relax _ 17 15 ex (nI 0) pc (gs_n (by decide) h2) (gs_n (by decide) h9)) rfl rfl (by exact Nat.le_of_ble_eq_true rfl) rfl (gs_n (by decide) h9) rfl rfl (fun v h' z => ?_)
  obtain ⟨rfl, rfl⟩ := z
  exact am_B.vret rfl rfl rfl ⟨rfl, _, rfl, upd_s⟩
theorem rs_get {j : Nat} (hj : j < 9) : am_aget .aaload 5 (9, .inr (.inr (.inr (.inr rs_)))) (nI j).toNatClampNeg = some (.ref (17 + j)) := by
  rw [nI_clamp (by omega)]
  show some (am_rv rs_ j) = _
  unfold am_rv rs_
  rw [if_pos hj]
set_option maxRecDepth 100000 in
set_option maxHeartbeats 4000000 in
theorem xt_steps (h : am_H) (ex pc : Int32) (g g15 : Nat → Int32) (h2 : h[2]? = some (c_NT pc (nI 0))) (h9 : h[9]? = some (c_MG ex (nI 1) (nI 0))) (h14 : h[14]? = some c_PF) (h15 : h[15]? = some (ia 10 g15)) (h16 : h[16]? = some (ra 5 9 rs_)) (h17 : h[17]? = some (ia 200 g)) : am_Ct am_G0 m_PF_stepsToLast 3 0 0 [.ref 14, .int (nI 0)] h (fun v h' => v = some (.int (nI 0)) ∧ ∃ x y, h' = (h.set 15 x).set 17 y) := by
  refine am_Ct.of (E := E_PF_stepsToLast) e_PF_stepsToLast (by decide) (Nat.le_of_ble_eq_true rfl) ?_
  refine am_B.run (hp := false) (sp := []) 200 rfl ?_
  refine am_B.get rfl rfl rfl (by first | assumption | exact gs_s (by first | assumption | exact gs_s (by first | assumption | exact gs_s (by assumption) | (refine gs_n (by decide) ?_; assumption)) | (refine gs_n (by decide) ?_; first | assumption | exact gs_s (by assumption) | (refine gs_n (by decide) ?_; assumption))) | (refine gs_n (by decide) ?_; first | assumption | exact gs_s (by first | assumption | exact gs_s (by assumption) | (refine gs_n (by decide) ?_; assumption)) | (refine gs_n (by decide) ?_; first | assumption | exact gs_s (by assumption) | (refine gs_n (by decide) ?_; assumption)))) rfl rfl ?_
  refine am_B.run (hp := false) (sp := []) 200 rfl ?_
  refine am_B.callS (ci := 0) (n := 2) (as := [.ref 15, .int (nI 1)]) rfl rfl rfl (ct_AR_fill 0 _ 15 10 g15 (nI 1) h15 (by decide)) rfl rfl (by exact Nat.le_of_ble_eq_true rfl) rfl rfl rfl (fun v h' z => ?_)
  obtain ⟨rfl, rfl⟩ := z
  refine am_B.run (hp := false) (sp := []) 200 rfl ?_
  refine am_B.get rfl rfl rfl (by first | assumption | exact gs_s (by first | assumption | exact gs_s (by first | assumption | exact gs_s (by assumption) | (refine gs_n (by decide) ?_; assumption)) | (refine gs_n (by decide) ?_; first | assumption | exact gs_s (by assumption) | (refine gs_n (by decide) ?_; assumption))) | (refine gs_n (by decide) ?_; first | assumption | exact gs_s (by first | assumption | exact gs_s (by assumption) | (refine gs_n (by decide) ?_; assumption)) | (refine gs_n (by decide) ?_; first | assumption | exact gs_s (by assumption) | (refine gs_n (by decide) ?_; assumption)))) rfl rfl ?_
  refine am_B.run (hp := false) (sp := []) 200 rfl ?_
  refine am_B.ald rfl (gs_n (by decide) h16) (vp_n (show 0 < 9 by decide) rfl) (rs_get (show 0 < 9 by decide)) ?_
  refine am_B.callV (ci := 3) (n := 1) (as := [.ref (17 + 0)]) rfl rfl rfl (xt_weighEnd _ ex pc g (gs_n (by decide) h2) (gs_n (by decide) h9) (gs_n (by decide) h14) (gs_n (by decide) h17)) rfl rfl (by exact Nat.le_of_ble_eq_true rfl) rfl (gs_n (by decide) h14) rfl rfl (fun v h' z => ?_)
  obtain ⟨rfl, g', rfl, hg⟩ := z
  have q14 : ((h.set 15 (ia 10 fun j => if j < 10 then nI 1 else g15 j)).set 17 (ia 200 g'))[14]? = some c_PF := gs_n (by decide) (gs_n (by decide) h14)
  have q16 : ((h.set 15 (ia 10 fun j => if j < 10 then nI 1 else g15 j)).set 17 (ia 200 g'))[16]? = some (ra 5 9 rs_) := gs_n (by decide) (gs_n (by decide) h16)
  have q17 : ((h.set 15 (ia 10 fun j => if j < 10 then nI 1 else g15 j)).set 17 (ia 200 g'))[17 + 0]? = some (ia 200 g') := gs_s (gs_n (by decide) h17)
  refine am_B.run (hp := false) (sp := []) 200 rfl ?_
  refine am_B.get rfl rfl rfl (by first | assumption | exact gs_s (by first | assumption | exact gs_s (by first | assumption | exact gs_s (by assumption) | (refine gs_n (by decide) ?_; assumption)) | (refine gs_n (by decide) ?_; first | assumption | exact gs_s (by assumption) | (refine gs_n (by decide) ?_; assumption))) | (refine gs_n (by decide) ?_; first | assumption | exact gs_s (by first | assumption | exact gs_s (by assumption) | (refine gs_n (by decide) ?_; assumption)) | (refine gs_n (by decide) ?_; first | assumption | exact gs_s (by assumption) | (refine gs_n (by decide) ?_; assumption)))) rfl rfl ?_
  refine am_B.run (hp := false) (sp := []) 200 rfl ?_
  refine am_B.ald rfl q16 (vp_n (show 0 < 9 by decide) rfl) (rs_get (show 0 < 9 by decide)) ?_
  refine am_B.run (hp := false) (sp := []) 200 rfl ?_
  refine am_B.ald rfl q17 (vp_n (show 0 < 200 by decide) rfl) rfl ?_
  rw [nI_clamp (show 0 < 2 ^ 31 by decide), hg]
  refine am_B.run (hp := false) (sp := []) 200 rfl ?_
  refine am_B.icmp_ne rfl rfl (fun _ => ?_) (fun z => absurd z (by decide))
  refine am_B.run (hp := false) (sp := []) 200 rfl ?_
  refine am_B.get rfl rfl rfl (by first | assumption | exact gs_s (by first | assumption | exact gs_s (by first | assumption | exact gs_s (by assumption) | (refine gs_n (by decide) ?_; assumption)) | (refine gs_n (by decide) ?_; first | assumption | exact gs_s (by assumption) | (refine gs_n (by decide) ?_; assumption))) | (refine gs_n (by decide) ?_; first | assumption | exact gs_s (by first | assumption | exact gs_s (by assumption) | (refine gs_n (by decide) ?_; assumption)) | (refine gs_n (by decide) ?_; first | assumption | exact gs_s (by assumption) | (refine gs_n (by decide) ?_; assumption)))) rfl rfl ?_
  refine am_B.run (hp := false) (sp := []) 200 rfl ?_
  refine am_B.ald rfl q16 (vp_n (show 0 < 9 by decide) rfl) (rs_get (show 0 < 9 by decide)) ?_
  refine am_B.run (hp := false) (sp := []) 200 rfl ?_
  refine am_B.ald rfl q17 (vp_n (show 0 < 200 by decide) rfl) rfl ?_
  rw [nI_clamp (show 0 < 2 ^ 31 by decide), hg]
  exact am_B.iret rfl rfl rfl ⟨rfl, _, _, rfl⟩
set_option maxRecDepth 100000 in
set_option maxHeartbeats 4000000 in
theorem xx_away0 (h : am_H) (X : xF h) : am_Ct am_G0 m_TA_away 4 0 0 [.ref 1, .int (nI 0)] h (fun v h' => v = some (.int (nI 0)) ∧ ∃ x y, h' = ((hE h).set 15 x).set 17 y) := by
  have h1 := X.2.1
  have e1 := X.e1
  have e9 := X.e9
  have h14 : (hE h)[14]? = some c_PF := xF.eo (by decide) X.2.2.2.2.2.2.2.2.2.2.2.2.1
  have h15 : (hE h)[15]? = some (z_ 10) := xF.eo (by decide) X.2.2.2.2.2.2.2.2.2.2.2.2.2.1
  have h16 : (hE h)[16]? = some (ra 5 9 rs_) := xF.eo (by decide) X.2.2.2.2.2.2.2.2.2.2.2.2.2.2.1
  have h17 : (hE h)[17]? = some (z_ 200) := xF.eo (by decide) X.2.2.2.2.2.2.2.2.2.2.2.2.2.2.2.1
  refine am_Ct.of (E := E_TA_away) e_TA_away (by decide) (Nat.le_of_ble_eq_true rfl) ?_
  refine am_B.run (hp := false) (sp := []) 200 rfl ?_
  refine am_B.callV (ci := 0) (n := 0) (as := []) rfl rfl rfl (xt_requireMarkings h X) rfl rfl (by exact Nat.le_of_ble_eq_true rfl) rfl h1 rfl rfl (fun v h' z => ?_)
  obtain ⟨rfl, rfl⟩ := z
  refine am_B.run (hp := false) (sp := []) 200 rfl ?_
  refine am_B.callV (ci := 0) (n := 1) (as := [.int (nI 0)]) rfl rfl rfl (ct_TA_requireMarking 0 _ 0 1 (nI 0) (nI 0) (nI 1) (nI 0) (by decide) (by decide) X.e1 X.e9) rfl rfl (by exact Nat.le_of_ble_eq_true rfl) rfl X.e1 rfl rfl (fun v h' z => ?_)
  obtain ⟨rfl, rfl⟩ := z
  refine am_B.run (hp := false) (sp := []) 200 rfl ?_
  refine am_B.get rfl rfl rfl (by first | assumption | exact gs_s (by first | assumption | exact gs_s (by first | assumption | exact gs_s (by assumption) | (refine gs_n (by decide) ?_; assumption)) | (refine gs_n (by decide) ?_; first | assumption | exact gs_s (by assumption) | (refine gs_n (by decide) ?_; assumption))) | (refine gs_n (by decide) ?_; first | assumption | exact gs_s (by first | assumption | exact gs_s (by assumption) | (refine gs_n (by decide) ?_; assumption)) | (refine gs_n (by decide) ?_; first | assumption | exact gs_s (by assumption) | (refine gs_n (by decide) ?_; assumption)))) rfl rfl ?_
  refine am_B.run (hp := false) (sp := []) 200 rfl ?_
  refine am_B.callV (ci := 3) (n := 1) (as := [.int (nI 0)]) rfl rfl rfl (xt_steps (hE h) (nI 1) (nI 0) _ _ X.e2 X.e9 h14 h15 h16 h17) rfl rfl (by exact Nat.le_of_ble_eq_true rfl) rfl h14 rfl rfl (fun v h' z => ?_)
  obtain ⟨rfl, z⟩ := z
  exact am_B.iret rfl rfl rfl ⟨rfl, z⟩
set_option maxRecDepth 100000 in
set_option maxHeartbeats 4000000 in
theorem xx_setLabelCost (h : am_H) (X : xF h) (K : calm h) (l c : Nat) (hl : l < 6) (hc : c ≤ 9) : am_Ct am_G0 m_TA_setLabelCost 1 0 0 [.ref 1, .int (nI l), .int (nI c)] h (fun v h' => v = some (.int (nI 1)) ∧ ∃ x, h' = h.set 13 x) := by
  have h1 := X.2.1
  obtain ⟨g, hg, h13⟩ : ∃ g : Nat → Int32, g l = nI 1 ∧ h[13]? = some (ia 6 g) := ⟨fun j => if j < 6 then nI 1 else 0, if_pos hl, X.2.2.2.2.2.2.2.2.2.2.2.1⟩
  refine am_Ct.of (E := E_TA_setLabelCost) e_TA_setLabelCost (by decide) (Nat.le_of_ble_eq_true rfl) ?_
  refine am_B.run (hp := false) (sp := []) 200 rfl ?_
  refine am_B.callS (n := 1) (as := [.int (nI l)]) rfl rfl rfl (ct_TA_isNoLabel 0 h l hl) rfl rfl (by exact Nat.le_of_ble_eq_true rfl) rfl rfl rfl (fun v h' z => ?_)
  obtain ⟨rfl, rfl⟩ := z
  refine am_B.if_eq rfl rfl (fun _ => ?_) (fun z => absurd rfl z)
  refine am_B.run (hp := false) (sp := []) 200 rfl ?_
  refine am_B.callS (n := 1) (as := [.int (nI c)]) rfl rfl rfl (ct_TA_requireCost 0 _ c hc) rfl rfl (by exact Nat.le_of_ble_eq_true rfl) rfl rfl rfl (fun v h' z => ?_)
  obtain ⟨rfl, rfl⟩ := z
  refine am_B.run (hp := false) (sp := []) 200 rfl ?_
  refine am_B.callV (ci := 0) (n := 0) (as := []) rfl rfl rfl (ct_TA_forgetAlignments 0 _ (nI 0) (nI 0) h1 K) rfl rfl (by exact Nat.le_of_ble_eq_true rfl) rfl h1 rfl rfl (fun v h' z => ?_)
  obtain ⟨rfl, rfl⟩ := z
  refine am_B.run (hp := false) (sp := []) 200 rfl ?_
  refine am_B.get rfl rfl rfl (by first | assumption | exact gs_s (by first | assumption | exact gs_s (by first | assumption | exact gs_s (by assumption) | (refine gs_n (by decide) ?_; assumption)) | (refine gs_n (by decide) ?_; first | assumption | exact gs_s (by assumption) | (refine gs_n (by decide) ?_; assumption))) | (refine gs_n (by decide) ?_; first | assumption | exact gs_s (by first | assumption | exact gs_s (by assumption) | (refine gs_n (by decide) ?_; assumption)) | (refine gs_n (by decide) ?_; first | assumption | exact gs_s (by assumption) | (refine gs_n (by decide) ?_; assumption)))) rfl rfl ?_
  refine am_B.run (hp := false) (sp := []) 200 rfl ?_
  refine am_B.ald rfl h13 (vp_n hl rfl) rfl ?_
  rw [nI_clamp (show l < 2 ^ 31 by omega), hg]
  refine am_B.run (hp := false) (sp := []) 200 rfl ?_
  refine am_B.get rfl rfl rfl (by first | assumption | exact gs_s (by first | assumption | exact gs_s (by first | assumption | exact gs_s (by assumption) | (refine gs_n (by decide) ?_; assumption)) | (refine gs_n (by decide) ?_; first | assumption | exact gs_s (by assumption) | (refine gs_n (by decide) ?_; assumption))) | (refine gs_n (by decide) ?_; first | assumption | exact gs_s (by first | assumption | exact gs_s (by assumption) | (refine gs_n (by decide) ?_; assumption)) | (refine gs_n (by decide) ?_; first | assumption | exact gs_s (by assumption) | (refine gs_n (by decide) ?_; assumption)))) rfl rfl ?_
  refine am_B.run (hp := false) (sp := []) 200 rfl ?_
  refine am_B.ast rfl h13 (vp_n hl rfl) rfl ?_
  refine am_B.run (hp := false) (sp := []) 200 rfl ?_
  exact am_B.iret rfl rfl rfl ⟨rfl, _, rfl⟩
set_option maxRecDepth 100000 in
set_option maxHeartbeats 4000000 in
theorem xx_total (h : am_H) (X : xF h) (l : Nat) (hl : l < 6) : am_Ct am_G0 m_TA_total 3 0 0 [.ref 1, .int (nI 1), .int (nI l)] h (fun v h' => v = some (.int (nI 0)) ∧ h' = hE h) := by
  have h1 := X.2.1
  have e1 := X.e1
  refine am_Ct.of (E := E_TA_total) e_TA_total (by decide) (Nat.le_of_ble_eq_true rfl) ?_
  refine am_B.run (hp := false) (sp := []) 200 rfl ?_
  refine am_B.if_lt rfl rfl (fun z => absurd z (by decide)) (fun _ => ?_)
  refine am_B.run (hp := false) (sp := []) 200 rfl ?_
  refine am_B.icmp_le rfl rfl (fun _ => ?_) (fun z => absurd (by decide) z)
  refine am_B.run (hp := false) (sp := []) 200 rfl ?_
  refine am_B.if_lt rfl rfl (fun z => absurd z (nI_nlt (Nat.zero_le _) (by omega))) (fun _ => ?_)
  refine am_B.run (hp := false) (sp := []) 200 rfl ?_
  refine am_B.icmp_ne rfl rfl (fun z => absurd rfl z) (fun _ => ?_)
  refine am_B.run (hp := false) (sp := []) 200 rfl ?_
  refine am_B.icmp_lt rfl rfl (fun _ => ?_) (fun z => absurd (nI_lt hl (by decide)) z)
  refine am_B.run (hp := false) (sp := []) 200 rfl ?_
  refine am_B.callV (ci := 0) (n := 0) (as := []) rfl rfl rfl (xt_requireMarkings h X) rfl rfl (by exact Nat.le_of_ble_eq_true rfl) rfl h1 rfl rfl (fun v h' z => ?_)
  obtain ⟨rfl, rfl⟩ := z
  refine am_B.run (hp := false) (sp := []) 200 rfl ?_
  refine am_B.get rfl rfl rfl (by first | assumption | exact gs_s (by first | assumption | exact gs_s (by first | assumption | exact gs_s (by assumption) | (refine gs_n (by decide) ?_; assumption)) | (refine gs_n (by decide) ?_; first | assumption | exact gs_s (by assumption) | (refine gs_n (by decide) ?_; assumption))) | (refine gs_n (by decide) ?_; first | assumption | exact gs_s (by first | assumption | exact gs_s (by assumption) | (refine gs_n (by decide) ?_; assumption)) | (refine gs_n (by decide) ?_; first | assumption | exact gs_s (by assumption) | (refine gs_n (by decide) ?_; assumption)))) rfl rfl ?_
  refine am_B.icmp_ge rfl rfl (fun _ => ?_) (fun z => absurd (by decide) z)
  refine am_B.run (hp := false) (sp := []) 200 rfl ?_
  exact am_B.iret rfl rfl rfl ⟨rfl, rfl⟩
set_option maxRecDepth 100000 in
set_option maxHeartbeats 4000000 in
theorem xx_totalX (h : am_H) (X : xF h) (a b : Int32) (hab : xbad a 3 ∨ (∃ k, k < 3 ∧ a = nI k ∧ ((k = 1 ∧ xbad b 6) ∨ k ≠ 1))) : am_CtX am_G0 m_TA_total 7 1 6 [.ref 1, .int a, .int b] h (fun _ _ => False) (xo "java/lang/IndexOutOfBoundsException" h) := by
  have h1 := X.2.1
  have h2 := X.2.2.1
  refine am_CtX.of (E := E_TA_total) e_TA_total (by decide) (Nat.le_of_ble_eq_true rfl) ?_
  have J9 : ∀ l3 l4 : Option Value, am_B E_TA_total (am_rm 7 1 6) (am_ZX E_TA_total 1 6 (fun _ _ => False) (xo "java/lang/IndexOutOfBoundsException" h)) 9 [some (.ref 1), some (.int a), some (.int b), l3, l4] [] h 1 6 := by
    intro l3 l4
    exact am_B.thr (rc := 0) (rs := 0) (cls := "java/lang/IndexOutOfBoundsException") (names := x_nm) rfl rfl rfl rfl rfl rfl rfl rfl rfl rfl x_fO x_fn x_wO (List.mem_of_getElem? (i := 19) rfl) (by decide) (by decide) (fun d => ⟨rfl, d, rfl⟩)
  have J44 : ∀ l3 l4 : Option Value, am_B E_TA_total (am_rm 7 1 6) (am_ZX E_TA_total 1 6 (fun _ _ => False) (xo "java/lang/IndexOutOfBoundsException" h)) 44 [some (.ref 1), some (.int a), some (.int b), l3, l4] [] h 1 6 := by
    intro l3 l4
    exact am_B.thr (rc := 0) (rs := 0) (cls := "java/lang/IndexOutOfBoundsException") (names := x_nm) rfl rfl rfl rfl rfl rfl rfl rfl rfl rfl x_fO x_fn x_wO (List.mem_of_getElem? (i := 20) rfl) (by decide) (by decide) (fun d => ⟨rfl, d, rfl⟩)
  refine am_B.run (hp := false) (sp := []) 200 rfl ?_
  rcases hab with (ha | ⟨j, q1, q2, rfl⟩) | ⟨k, hk, rfl, hb⟩
  · exact am_B.if_lt rfl rfl (fun _ => J9 _ _) (fun z => absurd ha z)
  · refine am_B.if_lt rfl rfl (fun z => absurd z (nI_nlt (Nat.zero_le _) q2)) (fun _ => ?_)
    refine am_B.run (hp := false) (sp := []) 200 rfl ?_
    exact am_B.icmp_le rfl rfl (fun z => absurd (Int32.not_lt.mpr z) (fun q => q (nI_lt (show 2 < j by omega) q2))) (fun _ => J9 _ _)
  · refine am_B.if_lt rfl rfl (fun z => absurd z (nI_nlt (Nat.zero_le _) (by omega))) (fun _ => ?_)
    refine am_B.run (hp := false) (sp := []) 200 rfl ?_
    refine am_B.icmp_le rfl rfl (fun _ => ?_) (fun z => absurd (nI_le (show k ≤ 2 by omega) (by decide)) z)
    refine am_B.run (hp := false) (sp := []) 200 rfl ?_
    have lim : ∀ n, xbad b n → ∀ l3 l4 : Option Value, am_B E_TA_total (am_rm 7 1 6) (am_ZX E_TA_total 1 6 (fun _ _ => False) (xo "java/lang/IndexOutOfBoundsException" h)) 41 [some (.ref 1), some (.int (nI k)), some (.int b), l3, l4] [.int (nI n), .int b] h 1 6 → True := fun _ _ _ _ _ => trivial
    rcases hb with ⟨rfl, hb⟩ | hk1
    · rcases hb with hb | ⟨j, q1, q2, rfl⟩
      · exact am_B.if_lt rfl rfl (fun _ => J44 _ _) (fun z => absurd hb z)
      · refine am_B.if_lt rfl rfl (fun z => absurd z (nI_nlt (Nat.zero_le _) q2)) (fun _ => ?_)
        refine am_B.run (hp := false) (sp := []) 200 rfl ?_
        refine am_B.icmp_ne rfl rfl (fun z => absurd rfl z) (fun _ => ?_)
        refine am_B.run (hp := false) (sp := []) 200 rfl ?_
        exact am_B.icmp_lt rfl rfl (fun z => absurd z (nI_nlt q1 q2)) (fun _ => J44 _ _)
    · rcases xbad_0 b with hb | ⟨j, q1, q2, rfl⟩
      · exact am_B.if_lt rfl rfl (fun _ => J44 _ _) (fun z => absurd hb z)
      · refine am_B.if_lt rfl rfl (fun z => absurd z (nI_nlt (Nat.zero_le _) q2)) (fun _ => ?_)
        refine am_B.run (hp := false) (sp := []) 200 rfl ?_
        refine am_B.icmp_ne rfl rfl (fun _ => ?_) (fun z => absurd ((nI_eq (by omega) (by decide)).mp z) hk1)
        refine am_B.run (hp := false) (sp := []) 200 rfl ?_
        refine am_B.get rfl rfl rfl (by first | assumption | exact gs_s (by first | assumption | exact gs_s (by first | assumption | exact gs_s (by assumption) | (refine gs_n (by decide) ?_; assumption)) | (refine gs_n (by decide) ?_; first | assumption | exact gs_s (by assumption) | (refine gs_n (by decide) ?_; assumption))) | (refine gs_n (by decide) ?_; first | assumption | exact gs_s (by first | assumption | exact gs_s (by assumption) | (refine gs_n (by decide) ?_; assumption)) | (refine gs_n (by decide) ?_; first | assumption | exact gs_s (by assumption) | (refine gs_n (by decide) ?_; assumption)))) rfl rfl ?_
        refine am_B.get rfl rfl rfl (by first | assumption | exact gs_s (by first | assumption | exact gs_s (by first | assumption | exact gs_s (by assumption) | (refine gs_n (by decide) ?_; assumption)) | (refine gs_n (by decide) ?_; first | assumption | exact gs_s (by assumption) | (refine gs_n (by decide) ?_; assumption))) | (refine gs_n (by decide) ?_; first | assumption | exact gs_s (by first | assumption | exact gs_s (by assumption) | (refine gs_n (by decide) ?_; assumption)) | (refine gs_n (by decide) ?_; first | assumption | exact gs_s (by assumption) | (refine gs_n (by decide) ?_; assumption)))) rfl rfl ?_
        exact am_B.icmp_lt rfl rfl (fun z => absurd z (nI_nlt q1 q2)) (fun _ => J44 _ _)
set_option maxRecDepth 100000 in
set_option maxHeartbeats 4000000 in
theorem xt_fitnessOf (f : Nat) (h : am_H) (a : Int32) : am_Ct am_G0 m_TA_fitnessOf f 0 0 [.int a, .int (nI 0)] h (fun v h' => v = some (.double FP.dconst1) ∧ h' = h) := by
  refine am_Ct.of (E := E_TA_fitnessOf) e_TA_fitnessOf (by decide) (Nat.le_of_ble_eq_true rfl) ?_
  refine am_B.run (hp := false) (sp := []) 200 rfl ?_
  refine am_B.if_ne rfl rfl (fun z => absurd rfl z) (fun _ => ?_)
  refine am_B.run (hp := false) (sp := []) 200 rfl ?_
  exact am_B.dret rfl rfl rfl ⟨rfl, rfl⟩
set_option maxRecDepth 100000 in
set_option maxHeartbeats 4000000 in
theorem xx_allFitness (h : am_H) (X : xF h) : am_Ct am_G0 m_TA_allFitness 3 0 0 [.ref 1] h (fun v h' => v = some (.double FP.dconst1) ∧ h' = hE h) := by
  have h1 := X.2.1
  have e1 := X.e1
  refine am_Ct.of (E := E_TA_allFitness) e_TA_allFitness (by decide) (Nat.le_of_ble_eq_true rfl) ?_
  refine am_B.run (hp := false) (sp := []) 200 rfl ?_
  refine am_B.callV (ci := 0) (n := 0) (as := []) rfl rfl rfl (xt_requireMarkings h X) rfl rfl (by exact Nat.le_of_ble_eq_true rfl) rfl h1 rfl rfl (fun v h' z => ?_)
  obtain ⟨rfl, rfl⟩ := z
  refine am_B.run (hp := false) (sp := []) 200 rfl ?_
  refine am_B.get rfl rfl rfl (by first | assumption | exact gs_s (by first | assumption | exact gs_s (by first | assumption | exact gs_s (by assumption) | (refine gs_n (by decide) ?_; assumption)) | (refine gs_n (by decide) ?_; first | assumption | exact gs_s (by assumption) | (refine gs_n (by decide) ?_; assumption))) | (refine gs_n (by decide) ?_; first | assumption | exact gs_s (by first | assumption | exact gs_s (by assumption) | (refine gs_n (by decide) ?_; assumption)) | (refine gs_n (by decide) ?_; first | assumption | exact gs_s (by assumption) | (refine gs_n (by decide) ?_; assumption)))) rfl rfl ?_
  refine am_B.icmp_ge rfl rfl (fun _ => ?_) (fun z => absurd (by decide) z)
  refine am_B.run (hp := false) (sp := []) 200 rfl ?_
  refine am_B.callS (n := 2) (as := [.int (nI 0), .int (nI 0)]) rfl rfl rfl (xt_fitnessOf 0 _ (nI 0)) rfl rfl (by exact Nat.le_of_ble_eq_true rfl) rfl rfl rfl (fun v h' z => ?_)
  obtain ⟨rfl, rfl⟩ := z
  exact am_B.dret rfl rfl rfl ⟨rfl, rfl⟩
set_option maxRecDepth 100000 in
set_option maxHeartbeats 4000000 in
theorem xt_collect (h : am_H) (nb : Int32) (g : Nat → Int32) (h1 : h[1]? = some (c_TA nb (nI 0))) (h52 : h[52]? = some (ia 200 g)) : am_Ct am_G0 m_TA_collectFired 1 0 0 [.ref 1] h (fun v h' => v = none ∧ ∃ x, h' = h.set 52 x) := by
  refine am_Ct.of (E := E_TA_collectFired) e_TA_collectFired (by decide) (Nat.le_of_ble_eq_true rfl) ?_
  refine am_B.run (hp := false) (sp := []) 200 rfl ?_
  refine am_B.get rfl rfl rfl (by first | assumption | exact gs_s (by first | assumption | exact gs_s (by first | assumption | exact gs_s (by assumption) | (refine gs_n (by decide) ?_; assumption)) | (refine gs_n (by decide) ?_; first | assumption | exact gs_s (by assumption) | (refine gs_n (by decide) ?_; assumption))) | (refine gs_n (by decide) ?_; first | assumption | exact gs_s (by first | assumption | exact gs_s (by assumption) | (refine gs_n (by decide) ?_; assumption)) | (refine gs_n (by decide) ?_; first | assumption | exact gs_s (by assumption) | (refine gs_n (by decide) ?_; assumption)))) rfl rfl ?_
  refine am_B.run (hp := false) (sp := []) 200 rfl ?_
  refine am_B.callS (ci := 0) (n := 2) (as := [.ref 52, .int (nI 0)]) rfl rfl rfl (ct_AR_fill 0 _ 52 200 g (nI 0) h52 (by decide)) rfl rfl (by exact Nat.le_of_ble_eq_true rfl) rfl rfl rfl (fun v h' z => ?_)
  obtain ⟨rfl, rfl⟩ := z
  refine am_B.run (hp := false) (sp := []) 200 rfl ?_
  refine am_B.get rfl rfl rfl (by first | assumption | exact gs_s (by first | assumption | exact gs_s (by first | assumption | exact gs_s (by assumption) | (refine gs_n (by decide) ?_; assumption)) | (refine gs_n (by decide) ?_; first | assumption | exact gs_s (by assumption) | (refine gs_n (by decide) ?_; assumption))) | (refine gs_n (by decide) ?_; first | assumption | exact gs_s (by first | assumption | exact gs_s (by assumption) | (refine gs_n (by decide) ?_; assumption)) | (refine gs_n (by decide) ?_; first | assumption | exact gs_s (by assumption) | (refine gs_n (by decide) ?_; assumption)))) rfl rfl ?_
  refine am_B.icmp_ge rfl rfl (fun _ => ?_) (fun z => absurd (by decide) z)
  exact am_B.vret rfl rfl rfl ⟨rfl, _, rfl⟩
set_option maxRecDepth 100000 in
set_option maxHeartbeats 4000000 in
theorem xx_precision (h : am_H) (X : xF h) : am_Ct am_G0 m_TA_precision 3 0 0 [.ref 1] h (fun v h' => v = some (.double FP.dconst1) ∧ ∃ x, h' = (hE h).set 52 x) := by
  have h1 := X.2.1
  have e1 := X.e1
  have e52 : (hE h)[52]? = some (z_ 200) := xF.eo (by decide) X.2.2.2.2.2.2.2.2.2.2.2.2.2.2.2.2.2.2.1
  refine am_Ct.of (E := E_TA_precision) e_TA_precision (by decide) (Nat.le_of_ble_eq_true rfl) ?_
  refine am_B.run (hp := false) (sp := []) 200 rfl ?_
  refine am_B.callV (ci := 0) (n := 0) (as := []) rfl rfl rfl (xt_requireMarkings h X) rfl rfl (by exact Nat.le_of_ble_eq_true rfl) rfl h1 rfl rfl (fun v h' z => ?_)
  obtain ⟨rfl, rfl⟩ := z
  refine am_B.run (hp := false) (sp := []) 200 rfl ?_
  refine am_B.callV (ci := 0) (n := 0) (as := []) rfl rfl rfl (xt_collect (hE h) (nI 0) _ e1 e52) rfl rfl (by exact Nat.le_of_ble_eq_true rfl) rfl e1 rfl rfl (fun v h' z => ?_)
  obtain ⟨rfl, x, rfl⟩ := z
  refine am_B.run (hp := false) (sp := []) 200 rfl ?_
  refine am_B.get rfl rfl rfl (by first | assumption | exact gs_s (by first | assumption | exact gs_s (by first | assumption | exact gs_s (by assumption) | (refine gs_n (by decide) ?_; assumption)) | (refine gs_n (by decide) ?_; first | assumption | exact gs_s (by assumption) | (refine gs_n (by decide) ?_; assumption))) | (refine gs_n (by decide) ?_; first | assumption | exact gs_s (by first | assumption | exact gs_s (by assumption) | (refine gs_n (by decide) ?_; assumption)) | (refine gs_n (by decide) ?_; first | assumption | exact gs_s (by assumption) | (refine gs_n (by decide) ?_; assumption)))) rfl rfl ?_
  refine am_B.icmp_ge rfl rfl (fun _ => ?_) (fun z => absurd (by decide) z)
  refine am_B.run (hp := false) (sp := []) 200 rfl ?_
  refine am_B.if_ne rfl rfl (fun z => absurd rfl z) (fun _ => ?_)
  refine am_B.run (hp := false) (sp := []) 200 rfl ?_
  exact am_B.dret rfl rfl rfl ⟨rfl, x, rfl⟩
