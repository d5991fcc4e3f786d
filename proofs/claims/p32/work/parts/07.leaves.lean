/-! LEAVES: small static methods -/
set_option maxRecDepth 100000 in
theorem ct_TA_isIn (f : Nat) (h : am_H) (s k : Int32) : am_Ct am_G0 m_TA_isIn f 0 0 [.int s, .int k] h (fun v h' => h' = h ∧ v = some (.int (if (s >>> (k &&& 31)) &&& nI 1 = 0 then nI 0 else nI 1))) := by
  refine am_Ct.of (E := E_TA_isIn) e_TA_isIn (by decide) (Nat.le_of_ble_eq_true rfl) ?_
  refine am_B.run (hp := false) (sp := []) 100 rfl ?_
  refine am_B.if_eq rfl rfl (fun hc => ?_) (fun hc => ?_)
  · refine am_B.run (hp := false) (sp := []) 100 rfl ?_
    exact am_B.zret rfl rfl rfl rfl ⟨rfl, by rw [if_pos hc]⟩
  · refine am_B.run (hp := false) (sp := []) 100 rfl ?_
    exact am_B.zret rfl rfl rfl rfl ⟨rfl, by rw [if_neg hc]⟩
set_option maxRecDepth 100000 in
theorem ct_TA_tokensIn (f : Nat) (h : am_H) (s k : Int32) : am_Ct am_G0 m_TA_tokensIn f 0 0 [.int s, .int k] h (fun v h' => h' = h ∧ v = some (.int ((s >>> ((nI 2 * k) &&& 31)) &&& nI 3))) := by
  refine am_Ct.of (E := E_TA_tokensIn) e_TA_tokensIn (by decide) (Nat.le_of_ble_eq_true rfl) ?_
  refine am_B.run (hp := false) (sp := []) 100 rfl ?_
  exact am_B.iret rfl rfl rfl ⟨rfl, rfl⟩
