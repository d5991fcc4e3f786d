/-! A TRACE that is asked for -/
theorem ts_get {j : Nat} (hj : j < 8) : am_aget .aaload 4 (8, .inr (.inr (.inr (.inr ts_)))) (nI j).toNatClampNeg = some (.ref (28 + 3 * j)) := by
  rw [nI_clamp (by omega)]
  show some (am_rv ts_ j) = _
  unfold am_rv ts_
  rw [if_pos hj]
set_option maxRecDepth 100000 in
set_option maxHeartbeats 4000000 in
theorem ct_TA_alignedTrace (h : am_H) (k m n : Nat) (nb la : Int32) (Qa : am_H → Prop) (hk : k < m) (hm : m ≤ 8) (hn : n < 2 ^ 31) (h1 : h[1]? = some (c_TA nb (nI m))) (h9 : h[9]? = some (c_MG (nI 1) (nI n) la)) (h14 : h[14]? = some c_PF) (h27 : h[27]? = some (ra 4 8 ts_))
    (ct : am_Ct am_G0 m_PF_align 4 1 3600 [.ref 14, .ref (28 + 3 * k)] h (fun v h' => v = none ∧ Qa h')) (hq1 : ∀ h', Qa h' → h'[1]? = some (c_TA nb (nI m))) (hq27 : ∀ h', Qa h' → h'[27]? = some (ra 4 8 ts_)) :
    am_Ct am_G0 m_TA_alignedTrace 5 1 3600 [.ref 1, .int (nI k)] h (fun v h' => v = some (.ref (28 + 3 * k)) ∧ Qa h') := by
  refine am_Ct.of (E := E_TA_alignedTrace) e_TA_alignedTrace (by decide) (Nat.le_of_ble_eq_true rfl) ?_
  refine am_B.run (hp := false) (sp := []) 200 rfl ?_
  refine am_B.callV (ci := 0) (n := 1) (as := [.int (nI k)]) rfl rfl rfl (ct_TA_requireTrace 0 h k m nb hk (by omega) h1) rfl rfl (by exact Nat.le_of_ble_eq_true rfl) rfl h1 rfl rfl (fun v h' z => ?_)
  obtain ⟨rfl, rfl⟩ := z
  refine am_B.run (hp := false) (sp := []) 200 rfl ?_
  refine am_B.callV (ci := 0) (n := 0) (as := []) rfl rfl rfl (ct_TA_requireMarkings h' n nb (nI m) la hn h1 h9) rfl rfl (by exact Nat.le_of_ble_eq_true rfl) rfl h1 rfl rfl (fun v h' z => ?_)
  obtain ⟨rfl, rfl⟩ := z
  refine am_B.run (hp := false) (sp := []) 200 rfl ?_
  refine am_B.get rfl rfl rfl (by first | assumption | exact gs_s (by first | assumption | exact gs_s (by first | assumption | exact gs_s (by assumption) | (refine gs_n (by decide) ?_; assumption)) | (refine gs_n (by decide) ?_; first | assumption | exact gs_s (by assumption) | (refine gs_n (by decide) ?_; assumption))) | (refine gs_n (by decide) ?_; first | assumption | exact gs_s (by first | assumption | exact gs_s (by assumption) | (refine gs_n (by decide) ?_; assumption)) | (refine gs_n (by decide) ?_; first | assumption | exact gs_s (by assumption) | (refine gs_n (by decide) ?_; assumption)))) rfl rfl ?_
  refine am_B.run (hp := false) (sp := []) 200 rfl ?_
  refine am_B.get rfl rfl rfl (by first | assumption | exact gs_s (by first | assumption | exact gs_s (by first | assumption | exact gs_s (by assumption) | (refine gs_n (by decide) ?_; assumption)) | (refine gs_n (by decide) ?_; first | assumption | exact gs_s (by assumption) | (refine gs_n (by decide) ?_; assumption))) | (refine gs_n (by decide) ?_; first | assumption | exact gs_s (by first | assumption | exact gs_s (by assumption) | (refine gs_n (by decide) ?_; assumption)) | (refine gs_n (by decide) ?_; first | assumption | exact gs_s (by assumption) | (refine gs_n (by decide) ?_; assumption)))) rfl rfl ?_
  refine am_B.run (hp := false) (sp := []) 200 rfl ?_
  refine am_B.ald rfl h27 (vp_n (show k < 8 by omega) rfl) (ts_get (show k < 8 by omega)) ?_
  refine am_B.run (hp := false) (sp := []) 200 rfl ?_
  refine am_B.callV (ci := 3) (n := 1) (as := [.ref (28 + 3 * k)]) rfl rfl rfl ct rfl rfl (by exact Nat.le_of_ble_eq_true rfl) rfl h14 rfl rfl (fun v h' z => ?_)
  obtain ⟨rfl, hQ⟩ := z
  have g1 := hq1 _ hQ
  have g27 := hq27 _ hQ
  refine am_B.run (hp := false) (sp := []) 200 rfl ?_
  refine am_B.get rfl rfl rfl (by first | assumption | exact gs_s (by first | assumption | exact gs_s (by first | assumption | exact gs_s (by assumption) | (refine gs_n (by decide) ?_; assumption)) | (refine gs_n (by decide) ?_; first | assumption | exact gs_s (by assumption) | (refine gs_n (by decide) ?_; assumption))) | (refine gs_n (by decide) ?_; first | assumption | exact gs_s (by first | assumption | exact gs_s (by assumption) | (refine gs_n (by decide) ?_; assumption)) | (refine gs_n (by decide) ?_; first | assumption | exact gs_s (by assumption) | (refine gs_n (by decide) ?_; assumption)))) rfl rfl ?_
  refine am_B.run (hp := false) (sp := []) 200 rfl ?_
  refine am_B.ald rfl g27 (vp_n (show k < 8 by omega) rfl) (ts_get (show k < 8 by omega)) ?_
  refine am_B.run (hp := false) (sp := []) 200 rfl ?_
  exact am_B.aret rfl rfl rfl ⟨rfl, hQ⟩
