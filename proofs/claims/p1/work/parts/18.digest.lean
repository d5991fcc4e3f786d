def dg : Int64 := 4598935199570012108
theorem six_nle {k : Nat} (hk : k < 6) : ¬ nI 6 ≤ nI k := by
  obtain rfl | rfl | rfl | rfl | rfl | rfl : k = 0 ∨ k = 1 ∨ k = 2 ∨ k = 3 ∨ k = 4 ∨ k = 5 := by omega
  all_goals decide
set_option maxRecDepth 100000 in
set_option maxHeartbeats 4000000 in
theorem md_step {Q : Option Value → am_H → Prop} (h : am_H) (M : mF h) (k : Nat) (hk : k < 6) (d : Int64) (K : am_B E_MO_digest (am_rm 3 0 0) (am_ZM E_MO_digest 0 0 Q) 161 [some (.ref 53), some (.long (d * 31 + (nI 1).toInt64)), none, some (.int (nI (k + 1))), none] [] (mL (c_ML (nI 0)) h) 0 0) : am_B E_MO_digest (am_rm 3 0 0) (am_ZM E_MO_digest 0 0 Q) 161 [some (.ref 53), some (.long d), none, some (.int (nI k)), none] [] (mL (c_ML (nI 0)) h) 0 0 := by
  refine am_B.run (hp := false) (sp := []) 200 rfl ?_
  refine am_B.icmp_ge rfl rfl (fun z => absurd z (six_nle hk)) (fun _ => ?_)
  refine am_B.run (hp := false) (sp := []) 200 rfl ?_
  refine am_B.get rfl rfl rfl (mL_53 M) rfl rfl ?_
  refine am_B.run (hp := false) (sp := []) 200 rfl ?_
  refine am_B.ald rfl (gs_n (by decide) (gs_n (by decide) M.2.2.2.2.2.2.1)) (vp_n hk rfl) rfl ?_
  rw [nI_clamp (show k < 2 ^ 31 by omega), one6_at hk]
  refine am_B.run (hp := false) (sp := [161]) 200 rfl ?_
  rw [nI_add k 1]
  exact K
set_option maxRecDepth 100000 in
set_option maxHeartbeats 4000000 in
theorem md_tail {Q : Option Value → am_H → Prop} (h : am_H) (M : mF h) (d : Int64) (hq : Q (some (.long (((((((((d * 31 + (nI 1).toInt64) * 31 + (nI 1).toInt64) * 31 + (nI 1).toInt64) * 31 + (nI 1).toInt64) * 31 + (nI 1).toInt64) * 31 + (nI 1).toInt64) * 31 + (nI 0).toInt64) * 31 + (nI 0).toInt64) * 31 + (nI 1).toInt64))) (mL (c_ML (nI 0)) h)) : am_B E_MO_digest (am_rm 3 0 0) (am_ZM E_MO_digest 0 0 Q) 31 [some (.ref 53), some (.long d), none, some (.int (nI 0)), none] [] (mL (c_ML (nI 0)) h) 0 0 := by
  refine am_B.run (hp := false) (sp := []) 200 rfl ?_
  refine am_B.get rfl rfl rfl (mL_53 M) rfl rfl ?_
  refine am_B.icmp_ge rfl rfl (fun _ => ?_) (fun z => absurd (by decide) z)
  refine am_B.run (hp := false) (sp := []) 200 rfl ?_
  refine am_B.get rfl rfl rfl (mL_53 M) rfl rfl ?_
  refine am_B.icmp_ge rfl rfl (fun _ => ?_) (fun z => absurd (by decide) z)
  refine am_B.run (hp := false) (sp := []) 200 rfl ?_
  refine am_B.get rfl rfl rfl (mL_53 M) rfl rfl ?_
  refine am_B.icmp_ge rfl rfl (fun _ => ?_) (fun z => absurd (by decide) z)
  refine am_B.run (hp := false) (sp := [161]) 200 rfl ?_
  show am_B E_MO_digest (am_rm 3 0 0) (am_ZM E_MO_digest 0 0 Q) 161 [some (.ref 53), some (.long d), none, some (.int (nI 0)), none] [] (mL (c_ML (nI 0)) h) 0 0
  refine md_step h M (0) (by decide) _ ?_
  refine md_step h M (1) (by decide) _ ?_
  refine md_step h M (2) (by decide) _ ?_
  refine md_step h M (3) (by decide) _ ?_
  refine md_step h M (4) (by decide) _ ?_
  refine md_step h M (5) (by decide) _ ?_
  refine am_B.run (hp := false) (sp := []) 200 rfl ?_
  refine am_B.icmp_ge rfl rfl (fun _ => ?_) (fun z => absurd (by decide) z)
  refine am_B.run (hp := false) (sp := []) 200 rfl ?_
  refine am_B.get rfl rfl rfl (mL_53 M) rfl rfl ?_
  refine am_B.run (hp := false) (sp := []) 200 rfl ?_
  refine am_B.get rfl rfl rfl (mL_53 M) rfl rfl ?_
  refine am_B.run (hp := false) (sp := []) 200 rfl ?_
  refine am_B.get rfl rfl rfl (mL_53 M) rfl rfl ?_
  refine am_B.icmp_ge rfl rfl (fun _ => ?_) (fun z => absurd (by decide) z)
  refine am_B.run (hp := false) (sp := []) 200 rfl ?_
  refine am_B.get rfl rfl rfl (mL_53 M) rfl rfl ?_
  refine am_B.if_eq rfl rfl (fun _ => ?_) (fun z => absurd rfl z)
  refine am_B.run (hp := false) (sp := []) 200 rfl ?_
  refine am_B.get rfl rfl rfl (mL_53 M) rfl rfl ?_
  refine am_B.run (hp := false) (sp := []) 200 rfl ?_
  refine am_B.get rfl rfl rfl (mL_53 M) rfl rfl ?_
  refine am_B.icmp_ge rfl rfl (fun _ => ?_) (fun z => absurd (by decide) z)
  refine am_B.run (hp := false) (sp := []) 200 rfl ?_
  exact am_B.lret rfl rfl rfl hq
set_option maxRecDepth 100000 in
set_option maxHeartbeats 4000000 in
theorem mc_digest (h : am_H) (M : mF h) : am_Ct am_G0 m_MO_digest 3 0 0 [.ref 53] h (fun v h' => v = some (.long dg) ∧ mP 0 h h') := by
  have m53 := M.2.1
  refine am_Ct.of (E := E_MO_digest) e_MO_digest (by decide) (Nat.le_of_ble_eq_true rfl) ?_
  refine am_B.run (hp := false) (sp := []) 200 rfl ?_
  refine am_B.put rfl rfl rfl m53 rfl (Nat.le_of_ble_eq_true rfl) rfl (fun q => by cases q) ?_
  have e53 : h.set 53 c_M0 = h := gs_id m53
  show am_B _ _ _ _ _ _ (h.set 53 c_M0) _ _
  rw [e53]
  refine am_B.run (hp := false) (sp := []) 200 rfl ?_
  refine am_B.callV (ci := 5) (n := 0) (as := []) rfl rfl rfl (mt_look 0 h M) rfl rfl (by exact Nat.le_of_ble_eq_true rfl) rfl m53 rfl rfl (fun v h' z => ?_)
  obtain ⟨rfl, rfl⟩ := z
  refine am_B.run (hp := false) (sp := []) 200 rfl ?_
  refine am_B.get rfl rfl rfl (mL_53 M) rfl rfl ?_
  refine am_B.run (hp := false) (sp := []) 200 rfl ?_
  refine am_B.get rfl rfl rfl (mL_53 M) rfl rfl ?_
  refine am_B.run (hp := false) (sp := [31]) 200 rfl ?_
  exact md_tail h M _ ⟨congrArg (fun x => some (Value.long x)) (by decide +kernel), mL_P M rfl⟩
set_option maxRecDepth 100000 in
set_option maxHeartbeats 4000000 in
theorem xt_digestOfNet (h : am_H) (X : xF h) (d : Int64) : am_Ct am_G0 m_TA_digestOfNet 0 0 0 [.ref 1, .long d] h (fun v h' => ∃ w, v = some (.long w) ∧ w = (d * 31 + (nI 0).toInt64) * 31 + (nI 0).toInt64 ∧ h' = h) := by
  have h1 := X.2.1
  have h2 := X.2.2.1
  refine am_Ct.of (E := E_TA_digestOfNet) e_TA_digestOfNet (by decide) (Nat.le_of_ble_eq_true rfl) ?_
  refine am_B.run (hp := false) (sp := []) 200 rfl ?_
  refine am_B.get rfl rfl rfl h1 rfl rfl ?_
  refine am_B.get rfl rfl rfl h2 rfl rfl ?_
  refine am_B.run (hp := false) (sp := []) 200 rfl ?_
  refine am_B.get rfl rfl rfl h1 rfl rfl ?_
  refine am_B.get rfl rfl rfl h2 rfl rfl ?_
  refine am_B.run (hp := false) (sp := []) 200 rfl ?_
  refine am_B.get rfl rfl rfl h1 rfl rfl ?_
  refine am_B.get rfl rfl rfl h2 rfl rfl ?_
  refine am_B.icmp_ge rfl rfl (fun _ => ?_) (fun z => absurd (by decide) z)
  refine am_B.run (hp := false) (sp := []) 200 rfl ?_
  refine am_B.get rfl rfl rfl h1 rfl rfl ?_
  refine am_B.get rfl rfl rfl h2 rfl rfl ?_
  refine am_B.icmp_ge rfl rfl (fun _ => ?_) (fun z => absurd (by decide) z)
  refine am_B.run (hp := false) (sp := []) 200 rfl ?_
  refine am_B.get rfl rfl rfl h1 rfl rfl ?_
  refine am_B.get rfl rfl rfl h2 rfl rfl ?_
  refine am_B.icmp_ge rfl rfl (fun _ => ?_) (fun z => absurd (by decide) z)
  refine am_B.run (hp := false) (sp := []) 200 rfl ?_
  exact am_B.lret rfl rfl rfl ⟨_, rfl, rfl, rfl⟩
set_option maxRecDepth 100000 in
set_option maxHeartbeats 4000000 in
theorem xt_digestOfTraces (h : am_H) (X : xF h) (d : Int64) : am_Ct am_G0 m_TA_digestOfTraces 0 0 0 [.ref 1, .long d] h (fun v h' => ∃ w, v = some (.long w) ∧ w = d * 31 + (nI 0).toInt64 ∧ h' = h) := by
  have h1 := X.2.1
  have h2 := X.2.2.1
  refine am_Ct.of (E := E_TA_digestOfTraces) e_TA_digestOfTraces (by decide) (Nat.le_of_ble_eq_true rfl) ?_
  refine am_B.run (hp := false) (sp := []) 200 rfl ?_
  refine am_B.get rfl rfl rfl h1 rfl rfl ?_
  refine am_B.run (hp := false) (sp := []) 200 rfl ?_
  refine am_B.get rfl rfl rfl h1 rfl rfl ?_
  refine am_B.icmp_ge rfl rfl (fun _ => ?_) (fun z => absurd (by decide) z)
  refine am_B.run (hp := false) (sp := []) 200 rfl ?_
  exact am_B.lret rfl rfl rfl ⟨_, rfl, rfl, rfl⟩
set_option maxRecDepth 100000 in
set_option maxHeartbeats 4000000 in
theorem xd_step {Q : Option Value → am_H → Prop} (h : am_H) (X : xF h) (k : Nat) (hk : k < 6) (d : Int64) (K : am_B E_TA_digest (am_rm 3 0 0) (am_ZM E_TA_digest 0 0 Q) 10 [some (.ref 1), some (.long (d * 31 + (nI 1).toInt64)), none, some (.int (nI (k + 1)))] [] h 0 0) : am_B E_TA_digest (am_rm 3 0 0) (am_ZM E_TA_digest 0 0 Q) 10 [some (.ref 1), some (.long d), none, some (.int (nI k))] [] h 0 0 := by
  have h1 := X.2.1
  obtain ⟨gg, hg, h13⟩ : ∃ gg : Nat → Int32, gg k = nI 1 ∧ h[13]? = some (ia 6 gg) := ⟨fun j => if j < 6 then nI 1 else 0, if_pos hk, X.2.2.2.2.2.2.2.2.2.2.2.1⟩
  refine am_B.run (hp := false) (sp := []) 200 rfl ?_
  refine am_B.icmp_ge rfl rfl (fun z => absurd z (six_nle hk)) (fun _ => ?_)
  refine am_B.run (hp := false) (sp := []) 200 rfl ?_
  refine am_B.get rfl rfl rfl h1 rfl rfl ?_
  refine am_B.run (hp := false) (sp := []) 200 rfl ?_
  refine am_B.ald rfl h13 (vp_n hk rfl) rfl ?_
  rw [nI_clamp (show k < 2 ^ 31 by omega), hg]
  refine am_B.run (hp := false) (sp := [10]) 200 rfl ?_
  rw [nI_add k 1]
  exact K
set_option maxRecDepth 100000 in
set_option maxHeartbeats 4000000 in
theorem xd_tail {Q : Option Value → am_H → Prop} (h : am_H) (X : xF h) (d : Int64) (hq : Q (some (.long (((((((((d * 31 + (nI 1).toInt64) * 31 + (nI 1).toInt64) * 31 + (nI 1).toInt64) * 31 + (nI 1).toInt64) * 31 + (nI 1).toInt64) * 31 + (nI 1).toInt64) * 31 + (nI 0).toInt64) * 31 + (nI 0).toInt64) * 31 + (nI 1).toInt64))) (hE h)) : am_B E_TA_digest (am_rm 3 0 0) (am_ZM E_TA_digest 0 0 Q) 10 [some (.ref 1), some (.long d), none, some (.int (nI 0))] [] h 0 0 := by
  have h1 := X.2.1
  have h9 := X.2.2.2.2.2.2.2.1
  have e1 := X.e1
  have e9 := X.e9
  refine xd_step h X (0) (by decide) _ ?_
  refine xd_step h X (1) (by decide) _ ?_
  refine xd_step h X (2) (by decide) _ ?_
  refine xd_step h X (3) (by decide) _ ?_
  refine xd_step h X (4) (by decide) _ ?_
  refine xd_step h X (5) (by decide) _ ?_
  refine am_B.run (hp := false) (sp := []) 200 rfl ?_
  refine am_B.icmp_ge rfl rfl (fun _ => ?_) (fun z => absurd (by decide) z)
  refine am_B.run (hp := false) (sp := []) 200 rfl ?_
  refine am_B.get rfl rfl rfl h1 rfl rfl ?_
  refine am_B.run (hp := false) (sp := []) 200 rfl ?_
  refine am_B.callV (ci := 0) (n := 1) (as := [.long _]) rfl rfl rfl (xt_digestOfTraces h X _) rfl rfl (by exact Nat.le_of_ble_eq_true rfl) rfl h1 rfl rfl (fun v h' z => ?_)
  obtain ⟨w, rfl, hw, rfl⟩ := z
  refine am_B.run (hp := false) (sp := []) 200 rfl ?_
  refine am_B.get rfl rfl rfl h1 rfl rfl ?_
  refine am_B.callV (ci := 2) (n := 0) (as := []) rfl rfl rfl (X.explore) rfl rfl (by exact Nat.le_of_ble_eq_true rfl) rfl h9 rfl rfl (fun v h' z => ?_)
  obtain ⟨rfl, rfl⟩ := z
  refine am_B.run (hp := false) (sp := []) 200 rfl ?_
  refine am_B.get rfl rfl rfl e1 rfl rfl ?_
  refine am_B.get rfl rfl rfl e9 rfl rfl ?_
  refine am_B.run (hp := false) (sp := []) 200 rfl ?_
  refine am_B.get rfl rfl rfl e1 rfl rfl ?_
  refine am_B.get rfl rfl rfl e9 rfl rfl ?_
  refine am_B.run (hp := false) (sp := []) 200 rfl ?_
  refine am_B.icmp_eq rfl rfl (fun z => absurd z (by decide)) (fun _ => ?_)
  refine am_B.run (hp := false) (sp := []) 200 rfl ?_
  refine am_B.get rfl rfl rfl e1 rfl rfl ?_
  refine am_B.icmp_ge rfl rfl (fun _ => ?_) (fun z => absurd (by decide) z)
  refine am_B.run (hp := false) (sp := []) 200 rfl ?_
  refine am_B.lret rfl rfl rfl ?_
  rw [hw]
  exact hq
set_option maxRecDepth 100000 in
set_option maxHeartbeats 4000000 in
theorem xx_digest (h : am_H) (X : xF h) : am_Ct am_G0 m_TA_digest 3 0 0 [.ref 1] h (fun v h' => v = some (.long dg) ∧ h' = hE h) := by
  have h1 := X.2.1
  have h2 := X.2.2.1
  refine am_Ct.of (E := E_TA_digest) e_TA_digest (by decide) (Nat.le_of_ble_eq_true rfl) ?_
  refine am_B.run (hp := false) (sp := []) 200 rfl ?_
  refine am_B.callV (ci := 0) (n := 1) (as := [.long 181]) rfl rfl rfl (xt_digestOfNet h X _) rfl rfl (by exact Nat.le_of_ble_eq_true rfl) rfl h1 rfl rfl (fun v h' z => ?_)
  obtain ⟨w, rfl, hw, rfl⟩ := z
  refine am_B.run (hp := false) (sp := [10]) 200 rfl ?_
  exact xd_tail h' X w ⟨congrArg (fun x => some (Value.long x)) (by rw [hw]; decide +kernel), rfl⟩
