/-! CALLS of a fresh aligner that don't throw; made from p32's rows -/
set_option maxRecDepth 100000 in
set_option maxHeartbeats 4000000 in
theorem ct_TA_requireMarking (f : Nat) (h : am_H) (k n : Nat) (nb nt ex la : Int32) (hk : k < n) (hn : n < 2 ^ 31) (h1 : h[1]? = some (c_TA nb nt)) (h9 : h[9]? = some (c_MG ex (nI n) la)) : am_Ct am_G0 m_TA_requireMarking f 0 0 [.ref 1, .int (nI k)] h (fun v h' => v = none ∧ h' = h) := by
  refine am_Ct.of (E := E_TA_requireMarking) e_TA_requireMarking (by decide) (Nat.le_of_ble_eq_true rfl) ?_
  refine am_B.run (hp := false) (sp := []) 200 rfl ?_
  refine am_B.if_lt rfl rfl (fun z => absurd z (nI_nlt (Nat.zero_le k) (by omega))) (fun _ => ?_)
  refine am_B.run (hp := false) (sp := []) 200 rfl ?_
  refine am_B.get rfl rfl rfl (by first | assumption | exact gs_s (by first | assumption | exact gs_s (by first | assumption | exact gs_s (by assumption) | (refine gs_n (by decide) ?_; assumption)) | (refine gs_n (by decide) ?_; first | assumption | exact gs_s (by assumption) | (refine gs_n (by decide) ?_; assumption))) | (refine gs_n (by decide) ?_; first | assumption | exact gs_s (by first | assumption | exact gs_s (by assumption) | (refine gs_n (by decide) ?_; assumption)) | (refine gs_n (by decide) ?_; first | assumption | exact gs_s (by assumption) | (refine gs_n (by decide) ?_; assumption)))) rfl rfl ?_
  refine am_B.run (hp := false) (sp := []) 200 rfl ?_
  refine am_B.get rfl rfl rfl (by first | assumption | exact gs_s (by first | assumption | exact gs_s (by first | assumption | exact gs_s (by assumption) | (refine gs_n (by decide) ?_; assumption)) | (refine gs_n (by decide) ?_; first | assumption | exact gs_s (by assumption) | (refine gs_n (by decide) ?_; assumption))) | (refine gs_n (by decide) ?_; first | assumption | exact gs_s (by first | assumption | exact gs_s (by assumption) | (refine gs_n (by decide) ?_; assumption)) | (refine gs_n (by decide) ?_; first | assumption | exact gs_s (by assumption) | (refine gs_n (by decide) ?_; assumption)))) rfl rfl ?_
  refine am_B.run (hp := false) (sp := []) 200 rfl ?_
  refine am_B.icmp_lt rfl rfl (fun _ => ?_) (fun z => absurd (nI_lt hk hn) z)
  refine am_B.run (hp := false) (sp := []) 200 rfl ?_
  exact am_B.vret rfl rfl rfl ⟨rfl, rfl⟩
set_option maxRecDepth 100000 in
set_option maxHeartbeats 4000000 in
theorem ct_TA_requireCost (f : Nat) (h : am_H) (k : Nat) (hk : k ≤ 9) : am_Ct am_G0 m_TA_requireCost f 0 0 [.int (nI k)] h (fun v h' => v = none ∧ h' = h) := by
  refine am_Ct.of (E := E_TA_requireCost) e_TA_requireCost (by decide) (Nat.le_of_ble_eq_true rfl) ?_
  refine am_B.run (hp := false) (sp := []) 200 rfl ?_
  refine am_B.if_lt rfl rfl (fun z => absurd z (nI_nlt (Nat.zero_le k) (by omega))) (fun _ => ?_)
  refine am_B.run (hp := false) (sp := []) 200 rfl ?_
  refine am_B.icmp_le rfl rfl (fun _ => ?_) (fun z => absurd (nI_le hk (by decide)) z)
  refine am_B.run (hp := false) (sp := []) 200 rfl ?_
  exact am_B.vret rfl rfl rfl ⟨rfl, rfl⟩
set_option maxRecDepth 100000 in
set_option maxHeartbeats 4000000 in
theorem ct_TA_isNoLabel (f : Nat) (h : am_H) (k : Nat) (hk : k < 6) : am_Ct am_G0 m_TA_isNoLabel f 0 0 [.int (nI k)] h (fun v h' => v = some (.int (nI 0)) ∧ h' = h) := by
  refine am_Ct.of (E := E_TA_isNoLabel) e_TA_isNoLabel (by decide) (Nat.le_of_ble_eq_true rfl) ?_
  refine am_B.run (hp := false) (sp := []) 200 rfl ?_
  refine am_B.if_lt rfl rfl (fun z => absurd z (nI_nlt (Nat.zero_le k) (by omega))) (fun _ => ?_)
  refine am_B.run (hp := false) (sp := []) 200 rfl ?_
  refine am_B.icmp_lt rfl rfl (fun _ => ?_) (fun z => absurd (nI_lt hk (by decide)) z)
  refine am_B.run (hp := false) (sp := []) 200 rfl ?_
  exact am_B.zret rfl rfl rfl rfl ⟨rfl, rfl⟩
def calm (h : am_H) : Prop := h[27]? = some (ra 4 8 ts_) ∧ (∃ sz la, h[9]? = some (c_MG (nI 0) sz la)) ∧ ∀ i, i < 8 → ∃ sz tm lf wf mf p, h[28 + 3 * i]? = some (c_TR i sz tm (nI 0) lf wf mf p)
set_option maxRecDepth 100000 in
set_option maxHeartbeats 4000000 in
theorem ct_TA_forgetAlignments (f : Nat) (h : am_H) (nb nt : Int32) (h1 : h[1]? = some (c_TA nb nt)) (K : calm h) : am_Ct am_G0 m_TA_forgetAlignments f 0 0 [.ref 1] h (fun v h' => v = none ∧ h' = h) := by
  have h27 := K.1
  refine am_Ct.of (E := E_TA_forgetAlignments) e_TA_forgetAlignments (by decide) (Nat.le_of_ble_eq_true rfl) ?_
  have L : ∀ d i, i + d = 8 → am_B E_TA_forgetAlignments (am_rm f 0 0) (am_ZM E_TA_forgetAlignments 0 0 (fun v h' => v = none ∧ h' = h)) 2 [some (.ref 1), some (.int (nI i))] [] h 0 0 := by
    intro d
    induction d with
    | zero =>
      intro i hi
      refine am_B.run (hp := false) (sp := []) 200 rfl ?_
      refine am_B.icmp_ge rfl rfl (fun _ => ?_) (fun q => absurd (nI_le (by omega) (by omega)) q)
      exact am_B.vret rfl rfl rfl ⟨rfl, rfl⟩
    | succ d ih =>
      intro i hi
      refine am_B.run (hp := false) (sp := []) 200 rfl ?_
      refine am_B.icmp_ge rfl rfl (fun q => absurd q (nI_ge (by omega) (by omega))) (fun _ => ?_)
      refine am_B.run (hp := false) (sp := []) 200 rfl ?_
      refine am_B.get rfl rfl rfl (by first | assumption | exact gs_s (by first | assumption | exact gs_s (by first | assumption | exact gs_s (by assumption) | (refine gs_n (by decide) ?_; assumption)) | (refine gs_n (by decide) ?_; first | assumption | exact gs_s (by assumption) | (refine gs_n (by decide) ?_; assumption))) | (refine gs_n (by decide) ?_; first | assumption | exact gs_s (by first | assumption | exact gs_s (by assumption) | (refine gs_n (by decide) ?_; assumption)) | (refine gs_n (by decide) ?_; first | assumption | exact gs_s (by assumption) | (refine gs_n (by decide) ?_; assumption)))) rfl rfl ?_
      refine am_B.run (hp := false) (sp := []) 200 rfl ?_
      refine am_B.ald rfl h27 (vp_n (show i < 8 by omega) rfl) (ts_get (show i < 8 by omega)) ?_
      refine am_B.run (hp := false) (sp := []) 200 rfl ?_
      obtain ⟨sz, tm, lf, wf, mf, p, hti⟩ := K.2.2 i (by omega)
      refine am_B.put rfl rfl rfl hti rfl (Nat.le_of_ble_eq_true rfl) rfl (fun q => by cases q) ?_
      have e : h.set (28 + 3 * i) (c_TR i sz tm (nI 0) lf wf mf p) = h := gs_id hti
      show am_B _ _ _ _ _ _ (h.set (28 + 3 * i) (c_TR i sz tm (nI 0) lf wf mf p)) _ _
      rw [e]
      refine am_B.run (hp := false) (sp := [2]) 200 rfl ?_
      rw [nI_add]
      exact ih (i + 1) (by omega)
  refine am_B.run (hp := false) (sp := [2]) 200 rfl ?_
  exact L 8 0 (by omega)
set_option maxRecDepth 100000 in
set_option maxHeartbeats 4000000 in
theorem ct_TA_forgetMarkings (h : am_H) (nb nt : Int32) (h1 : h[1]? = some (c_TA nb nt)) (K : calm h) : am_Ct am_G0 m_TA_forgetMarkings 1 0 0 [.ref 1] h (fun v h' => v = none ∧ h' = h) := by
  obtain ⟨sz, la, h9⟩ := K.2.1
  refine am_Ct.of (E := E_TA_forgetMarkings) e_TA_forgetMarkings (by decide) (Nat.le_of_ble_eq_true rfl) ?_
  refine am_B.run (hp := false) (sp := []) 200 rfl ?_
  refine am_B.get rfl rfl rfl (by first | assumption | exact gs_s (by first | assumption | exact gs_s (by first | assumption | exact gs_s (by assumption) | (refine gs_n (by decide) ?_; assumption)) | (refine gs_n (by decide) ?_; first | assumption | exact gs_s (by assumption) | (refine gs_n (by decide) ?_; assumption))) | (refine gs_n (by decide) ?_; first | assumption | exact gs_s (by first | assumption | exact gs_s (by assumption) | (refine gs_n (by decide) ?_; assumption)) | (refine gs_n (by decide) ?_; first | assumption | exact gs_s (by assumption) | (refine gs_n (by decide) ?_; assumption)))) rfl rfl ?_
  refine am_B.run (hp := false) (sp := []) 200 rfl ?_
  refine am_B.put rfl rfl rfl (by first | assumption | exact gs_s (by first | assumption | exact gs_s (by first | assumption | exact gs_s (by assumption) | (refine gs_n (by decide) ?_; assumption)) | (refine gs_n (by decide) ?_; first | assumption | exact gs_s (by assumption) | (refine gs_n (by decide) ?_; assumption))) | (refine gs_n (by decide) ?_; first | assumption | exact gs_s (by first | assumption | exact gs_s (by assumption) | (refine gs_n (by decide) ?_; assumption)) | (refine gs_n (by decide) ?_; first | assumption | exact gs_s (by assumption) | (refine gs_n (by decide) ?_; assumption)))) rfl (Nat.le_of_ble_eq_true rfl) rfl (fun q => by cases q) ?_
  have e : h.set 9 (c_MG (nI 0) sz la) = h := gs_id h9
  show am_B _ _ _ _ _ _ (h.set 9 (c_MG (nI 0) sz la)) _ _
  rw [e]
  refine am_B.run (hp := false) (sp := []) 200 rfl ?_
  refine am_B.callV (ci := 0) (n := 0) (as := []) rfl rfl rfl (ct_TA_forgetAlignments 0 h nb nt h1 K) rfl rfl (by exact Nat.le_of_ble_eq_true rfl) rfl h1 rfl rfl (fun v h' z => ?_)
  obtain ⟨rfl, rfl⟩ := z
  exact am_B.vret rfl rfl rfl ⟨rfl, rfl⟩
set_option maxRecDepth 100000 in
set_option maxHeartbeats 4000000 in
theorem ct_NT_appendPlace (f : Nat) (h : am_H) (P : Nat) (tc : Int32) (h2 : h[2]? = some (c_NT (nI P) tc)) : am_Ct am_G0 m_NT_appendPlace f 0 0 [.ref 2] h (fun v h' => v = some (.int (nI P)) ∧ h' = h.set 2 (c_NT (nI (P + 1)) tc)) := by
  refine am_Ct.of (E := E_NT_appendPlace) e_NT_appendPlace (by decide) (Nat.le_of_ble_eq_true rfl) ?_
  refine am_B.run (hp := false) (sp := []) 200 rfl ?_
  refine am_B.get rfl rfl rfl (by first | assumption | exact gs_s (by first | assumption | exact gs_s (by first | assumption | exact gs_s (by assumption) | (refine gs_n (by decide) ?_; assumption)) | (refine gs_n (by decide) ?_; first | assumption | exact gs_s (by assumption) | (refine gs_n (by decide) ?_; assumption))) | (refine gs_n (by decide) ?_; first | assumption | exact gs_s (by first | assumption | exact gs_s (by assumption) | (refine gs_n (by decide) ?_; assumption)) | (refine gs_n (by decide) ?_; first | assumption | exact gs_s (by assumption) | (refine gs_n (by decide) ?_; assumption)))) rfl rfl ?_
  refine am_B.run (hp := false) (sp := []) 200 rfl ?_
  refine am_B.put rfl rfl rfl (by first | assumption | exact gs_s (by first | assumption | exact gs_s (by first | assumption | exact gs_s (by assumption) | (refine gs_n (by decide) ?_; assumption)) | (refine gs_n (by decide) ?_; first | assumption | exact gs_s (by assumption) | (refine gs_n (by decide) ?_; assumption))) | (refine gs_n (by decide) ?_; first | assumption | exact gs_s (by first | assumption | exact gs_s (by assumption) | (refine gs_n (by decide) ?_; assumption)) | (refine gs_n (by decide) ?_; first | assumption | exact gs_s (by assumption) | (refine gs_n (by decide) ?_; assumption)))) rfl (Nat.le_of_ble_eq_true rfl) rfl (fun q => by cases q) ?_
  show am_B _ _ _ _ _ _ (h.set 2 (c_NT (nI P + nI 1) tc)) _ _
  rw [nI_add]
  refine am_B.run (hp := false) (sp := []) 200 rfl ?_
  refine am_B.get rfl rfl rfl (gs_s h2) rfl rfl ?_
  refine am_B.run (hp := false) (sp := []) 200 rfl ?_
  exact am_B.iret rfl rfl rfl ⟨by rw [nI_prd], rfl⟩
set_option maxRecDepth 100000 in
set_option maxHeartbeats 4000000 in
theorem ct_TA_addPlace (h : am_H) (P : Nat) (nb nt tc : Int32) (hP : P < 8) (h1 : h[1]? = some (c_TA nb nt)) (h2 : h[2]? = some (c_NT (nI P) tc)) (K : calm h) : am_Ct am_G0 m_TA_addPlace 2 0 0 [.ref 1] h (fun v h' => v = some (.int (nI P)) ∧ h' = h.set 2 (c_NT (nI (P + 1)) tc)) := by
  refine am_Ct.of (E := E_TA_addPlace) e_TA_addPlace (by decide) (Nat.le_of_ble_eq_true rfl) ?_
  refine am_B.run (hp := false) (sp := []) 200 rfl ?_
  refine am_B.get rfl rfl rfl (by first | assumption | exact gs_s (by first | assumption | exact gs_s (by first | assumption | exact gs_s (by assumption) | (refine gs_n (by decide) ?_; assumption)) | (refine gs_n (by decide) ?_; first | assumption | exact gs_s (by assumption) | (refine gs_n (by decide) ?_; assumption))) | (refine gs_n (by decide) ?_; first | assumption | exact gs_s (by first | assumption | exact gs_s (by assumption) | (refine gs_n (by decide) ?_; assumption)) | (refine gs_n (by decide) ?_; first | assumption | exact gs_s (by assumption) | (refine gs_n (by decide) ?_; assumption)))) rfl rfl ?_
  refine am_B.run (hp := false) (sp := []) 200 rfl ?_
  refine am_B.get rfl rfl rfl (by first | assumption | exact gs_s (by first | assumption | exact gs_s (by first | assumption | exact gs_s (by assumption) | (refine gs_n (by decide) ?_; assumption)) | (refine gs_n (by decide) ?_; first | assumption | exact gs_s (by assumption) | (refine gs_n (by decide) ?_; assumption))) | (refine gs_n (by decide) ?_; first | assumption | exact gs_s (by first | assumption | exact gs_s (by assumption) | (refine gs_n (by decide) ?_; assumption)) | (refine gs_n (by decide) ?_; first | assumption | exact gs_s (by assumption) | (refine gs_n (by decide) ?_; assumption)))) rfl rfl ?_
  refine am_B.run (hp := false) (sp := []) 200 rfl ?_
  refine am_B.icmp_lt rfl rfl (fun _ => ?_) (fun z => absurd (nI_lt hP (by decide)) z)
  refine am_B.run (hp := false) (sp := []) 200 rfl ?_
  refine am_B.callV (ci := 0) (n := 0) (as := []) rfl rfl rfl (ct_TA_forgetMarkings h nb nt h1 K) rfl rfl (by exact Nat.le_of_ble_eq_true rfl) rfl h1 rfl rfl (fun v h' z => ?_)
  obtain ⟨rfl, rfl⟩ := z
  refine am_B.run (hp := false) (sp := []) 200 rfl ?_
  refine am_B.get rfl rfl rfl (by first | assumption | exact gs_s (by first | assumption | exact gs_s (by first | assumption | exact gs_s (by assumption) | (refine gs_n (by decide) ?_; assumption)) | (refine gs_n (by decide) ?_; first | assumption | exact gs_s (by assumption) | (refine gs_n (by decide) ?_; assumption))) | (refine gs_n (by decide) ?_; first | assumption | exact gs_s (by first | assumption | exact gs_s (by assumption) | (refine gs_n (by decide) ?_; assumption)) | (refine gs_n (by decide) ?_; first | assumption | exact gs_s (by assumption) | (refine gs_n (by decide) ?_; assumption)))) rfl rfl ?_
  refine am_B.run (hp := false) (sp := []) 200 rfl ?_
  refine am_B.callV (ci := 1) (n := 0) (as := []) rfl rfl rfl (ct_NT_appendPlace 0 _ P tc h2) rfl rfl (by exact Nat.le_of_ble_eq_true rfl) rfl h2 rfl rfl (fun v h' z => ?_)
  obtain ⟨rfl, rfl⟩ := z
  refine am_B.run (hp := false) (sp := []) 200 rfl ?_
  exact am_B.iret rfl rfl rfl ⟨rfl, rfl⟩
set_option maxRecDepth 100000 in
set_option maxHeartbeats 4000000 in
theorem ct_NT_appendTransition (f : Nat) (h : am_H) (T : Nat) (pc x : Int32) (gl gco : Nat → Int32) (hT : T < 10) (h2 : h[2]? = some (c_NT pc (nI T))) (h3 : h[3]? = some (ia 10 gl)) (h4 : h[4]? = some (ia 10 gco)) : am_Ct am_G0 m_NT_appendTransition f 0 0 [.ref 2, .int x] h (fun v h' => v = some (.int (nI T)) ∧
    h' = ((h.set 3 (ia 10 (upd gl T x))).set 4 (ia 10 (upd gco T (if x = -1 then nI 0 else nI 1)))).set 2 (c_NT pc (nI (T + 1)))) := by
  refine am_Ct.of (E := E_NT_appendTransition) e_NT_appendTransition (by decide) (Nat.le_of_ble_eq_true rfl) ?_
  refine am_B.run (hp := false) (sp := []) 200 rfl ?_
  refine am_B.get rfl rfl rfl (by first | assumption | exact gs_s (by first | assumption | exact gs_s (by first | assumption | exact gs_s (by assumption) | (refine gs_n (by decide) ?_; assumption)) | (refine gs_n (by decide) ?_; first | assumption | exact gs_s (by assumption) | (refine gs_n (by decide) ?_; assumption))) | (refine gs_n (by decide) ?_; first | assumption | exact gs_s (by first | assumption | exact gs_s (by assumption) | (refine gs_n (by decide) ?_; assumption)) | (refine gs_n (by decide) ?_; first | assumption | exact gs_s (by assumption) | (refine gs_n (by decide) ?_; assumption)))) rfl rfl ?_
  refine am_B.run (hp := false) (sp := []) 200 rfl ?_
  refine am_B.get rfl rfl rfl (by first | assumption | exact gs_s (by first | assumption | exact gs_s (by first | assumption | exact gs_s (by assumption) | (refine gs_n (by decide) ?_; assumption)) | (refine gs_n (by decide) ?_; first | assumption | exact gs_s (by assumption) | (refine gs_n (by decide) ?_; assumption))) | (refine gs_n (by decide) ?_; first | assumption | exact gs_s (by first | assumption | exact gs_s (by assumption) | (refine gs_n (by decide) ?_; assumption)) | (refine gs_n (by decide) ?_; first | assumption | exact gs_s (by assumption) | (refine gs_n (by decide) ?_; assumption)))) rfl rfl ?_
  refine am_B.run (hp := false) (sp := []) 200 rfl ?_
  refine am_B.ast rfl h3 (vp_n hT rfl) rfl ?_
  rw [nI_clamp (show T < 2 ^ 31 by omega)]
  refine am_B.run (hp := false) (sp := []) 200 rfl ?_
  refine am_B.get rfl rfl rfl (by first | assumption | exact gs_s (by first | assumption | exact gs_s (by first | assumption | exact gs_s (by assumption) | (refine gs_n (by decide) ?_; assumption)) | (refine gs_n (by decide) ?_; first | assumption | exact gs_s (by assumption) | (refine gs_n (by decide) ?_; assumption))) | (refine gs_n (by decide) ?_; first | assumption | exact gs_s (by first | assumption | exact gs_s (by assumption) | (refine gs_n (by decide) ?_; assumption)) | (refine gs_n (by decide) ?_; first | assumption | exact gs_s (by assumption) | (refine gs_n (by decide) ?_; assumption)))) rfl rfl ?_
  refine am_B.run (hp := false) (sp := []) 200 rfl ?_
  refine am_B.get rfl rfl rfl (by first | assumption | exact gs_s (by first | assumption | exact gs_s (by first | assumption | exact gs_s (by assumption) | (refine gs_n (by decide) ?_; assumption)) | (refine gs_n (by decide) ?_; first | assumption | exact gs_s (by assumption) | (refine gs_n (by decide) ?_; assumption))) | (refine gs_n (by decide) ?_; first | assumption | exact gs_s (by first | assumption | exact gs_s (by assumption) | (refine gs_n (by decide) ?_; assumption)) | (refine gs_n (by decide) ?_; first | assumption | exact gs_s (by assumption) | (refine gs_n (by decide) ?_; assumption)))) rfl rfl ?_
  refine am_B.run (hp := false) (sp := []) 200 rfl ?_
  have J28 : ∀ c : Int32, c = (if x = -1 then nI 0 else nI 1) → am_B E_NT_appendTransition (am_rm f 0 0) (am_ZM E_NT_appendTransition 0 0 (fun v h' => v = some (.int (nI T)) ∧ h' = ((h.set 3 (ia 10 (upd gl T x))).set 4 (ia 10 (upd gco T (if x = -1 then nI 0 else nI 1)))).set 2 (c_NT pc (nI (T + 1)))))
      28 [some (.ref 2), some (.int x)] [.int c, .int (nI T), .ref 4] (h.set 3 (ia 10 (upd gl T x))) 0 0 := by
    intro c hc
    refine am_B.ast rfl (gs_n (by decide) h4) (vp_n hT rfl) rfl ?_
    rw [nI_clamp (show T < 2 ^ 31 by omega), hc]
    refine am_B.run (hp := false) (sp := []) 200 rfl ?_
    refine am_B.get rfl rfl rfl (by first | assumption | exact gs_s (by first | assumption | exact gs_s (by first | assumption | exact gs_s (by assumption) | (refine gs_n (by decide) ?_; assumption)) | (refine gs_n (by decide) ?_; first | assumption | exact gs_s (by assumption) | (refine gs_n (by decide) ?_; assumption))) | (refine gs_n (by decide) ?_; first | assumption | exact gs_s (by first | assumption | exact gs_s (by assumption) | (refine gs_n (by decide) ?_; assumption)) | (refine gs_n (by decide) ?_; first | assumption | exact gs_s (by assumption) | (refine gs_n (by decide) ?_; assumption)))) rfl rfl ?_
    refine am_B.run (hp := false) (sp := []) 200 rfl ?_
    refine am_B.put rfl rfl rfl (by first | assumption | exact gs_s (by first | assumption | exact gs_s (by first | assumption | exact gs_s (by assumption) | (refine gs_n (by decide) ?_; assumption)) | (refine gs_n (by decide) ?_; first | assumption | exact gs_s (by assumption) | (refine gs_n (by decide) ?_; assumption))) | (refine gs_n (by decide) ?_; first | assumption | exact gs_s (by first | assumption | exact gs_s (by assumption) | (refine gs_n (by decide) ?_; assumption)) | (refine gs_n (by decide) ?_; first | assumption | exact gs_s (by assumption) | (refine gs_n (by decide) ?_; assumption)))) rfl (Nat.le_of_ble_eq_true rfl) rfl (fun q => by cases q) ?_
    show am_B _ _ _ _ _ _ (((h.set 3 (ia 10 (upd gl T x))).set 4 (ia 10 (upd gco T (if x = -1 then nI 0 else nI 1)))).set 2 (c_NT pc (nI T + nI 1))) _ _
    rw [nI_add]
    refine am_B.run (hp := false) (sp := []) 200 rfl ?_
    refine am_B.get rfl rfl rfl (gs_s (gs_n (by decide) (gs_n (by decide) h2))) rfl rfl ?_
    refine am_B.run (hp := false) (sp := []) 200 rfl ?_
    exact am_B.iret rfl rfl rfl ⟨by rw [nI_prd], rfl⟩
  refine am_B.icmp_ne rfl rfl (fun z => ?_) (fun z => ?_)
  · refine am_B.run (hp := false) (sp := [28]) 200 rfl ?_
    exact J28 _ (by rw [if_neg z])
  · refine am_B.run (hp := false) (sp := [28]) 200 rfl ?_
    exact J28 _ (by rw [if_pos z])
set_option maxRecDepth 100000 in
set_option maxHeartbeats 4000000 in
theorem ct_TA_addTransition (h : am_H) (T : Nat) (nb nt pc x : Int32) (gl gco : Nat → Int32) (hT : T < 10) (hx : x = -1 ∨ ∃ l, l < 6 ∧ x = nI l) (h1 : h[1]? = some (c_TA nb nt)) (h2 : h[2]? = some (c_NT pc (nI T))) (h3 : h[3]? = some (ia 10 gl)) (h4 : h[4]? = some (ia 10 gco)) (K : calm h) : am_Ct am_G0 m_TA_addTransition 2 0 0 [.ref 1, .int x] h (fun v h' => v = some (.int (nI T)) ∧
    h' = ((h.set 3 (ia 10 (upd gl T x))).set 4 (ia 10 (upd gco T (if x = -1 then nI 0 else nI 1)))).set 2 (c_NT pc (nI (T + 1)))) := by
  refine am_Ct.of (E := E_TA_addTransition) e_TA_addTransition (by decide) (Nat.le_of_ble_eq_true rfl) ?_
  have J22 : am_B E_TA_addTransition (am_rm 2 0 0) (am_ZM E_TA_addTransition 0 0 (fun v h' => v = some (.int (nI T)) ∧ h' = ((h.set 3 (ia 10 (upd gl T x))).set 4 (ia 10 (upd gco T (if x = -1 then nI 0 else nI 1)))).set 2 (c_NT pc (nI (T + 1)))))
      22 [some (.ref 1), some (.int x)] [] h 0 0 := by
    refine am_B.run (hp := false) (sp := []) 200 rfl ?_
    refine am_B.get rfl rfl rfl (by first | assumption | exact gs_s (by first | assumption | exact gs_s (by first | assumption | exact gs_s (by assumption) | (refine gs_n (by decide) ?_; assumption)) | (refine gs_n (by decide) ?_; first | assumption | exact gs_s (by assumption) | (refine gs_n (by decide) ?_; assumption))) | (refine gs_n (by decide) ?_; first | assumption | exact gs_s (by first | assumption | exact gs_s (by assumption) | (refine gs_n (by decide) ?_; assumption)) | (refine gs_n (by decide) ?_; first | assumption | exact gs_s (by assumption) | (refine gs_n (by decide) ?_; assumption)))) rfl rfl ?_
    refine am_B.run (hp := false) (sp := []) 200 rfl ?_
    refine am_B.get rfl rfl rfl (by first | assumption | exact gs_s (by first | assumption | exact gs_s (by first | assumption | exact gs_s (by assumption) | (refine gs_n (by decide) ?_; assumption)) | (refine gs_n (by decide) ?_; first | assumption | exact gs_s (by assumption) | (refine gs_n (by decide) ?_; assumption))) | (refine gs_n (by decide) ?_; first | assumption | exact gs_s (by first | assumption | exact gs_s (by assumption) | (refine gs_n (by decide) ?_; assumption)) | (refine gs_n (by decide) ?_; first | assumption | exact gs_s (by assumption) | (refine gs_n (by decide) ?_; assumption)))) rfl rfl ?_
    refine am_B.run (hp := false) (sp := []) 200 rfl ?_
    refine am_B.icmp_lt rfl rfl (fun _ => ?_) (fun z => absurd (nI_lt hT (by decide)) z)
    refine am_B.run (hp := false) (sp := []) 200 rfl ?_
    refine am_B.callV (ci := 0) (n := 0) (as := []) rfl rfl rfl (ct_TA_forgetMarkings h nb nt h1 K) rfl rfl (by exact Nat.le_of_ble_eq_true rfl) rfl h1 rfl rfl (fun v h' z => ?_)
    obtain ⟨rfl, rfl⟩ := z
    refine am_B.run (hp := false) (sp := []) 200 rfl ?_
    refine am_B.get rfl rfl rfl (by first | assumption | exact gs_s (by first | assumption | exact gs_s (by first | assumption | exact gs_s (by assumption) | (refine gs_n (by decide) ?_; assumption)) | (refine gs_n (by decide) ?_; first | assumption | exact gs_s (by assumption) | (refine gs_n (by decide) ?_; assumption))) | (refine gs_n (by decide) ?_; first | assumption | exact gs_s (by first | assumption | exact gs_s (by assumption) | (refine gs_n (by decide) ?_; assumption)) | (refine gs_n (by decide) ?_; first | assumption | exact gs_s (by assumption) | (refine gs_n (by decide) ?_; assumption)))) rfl rfl ?_
    refine am_B.run (hp := false) (sp := []) 200 rfl ?_
    refine am_B.callV (ci := 1) (n := 1) (as := [.int x]) rfl rfl rfl (ct_NT_appendTransition 0 _ T pc x gl gco hT h2 h3 h4) rfl rfl (by exact Nat.le_of_ble_eq_true rfl) rfl h2 rfl rfl (fun v h' z => ?_)
    obtain ⟨rfl, rfl⟩ := z
    refine am_B.run (hp := false) (sp := []) 200 rfl ?_
    exact am_B.iret rfl rfl rfl ⟨rfl, rfl⟩
  refine am_B.run (hp := false) (sp := []) 200 rfl ?_
  refine am_B.icmp_eq rfl rfl (fun z => J22) (fun z => ?_)
  obtain ⟨l, hl, rfl⟩ := hx.resolve_left z
  refine am_B.run (hp := false) (sp := []) 200 rfl ?_
  refine am_B.callS (n := 1) (as := [.int (nI l)]) rfl rfl rfl (ct_TA_isNoLabel 0 _ l hl) rfl rfl (by exact Nat.le_of_ble_eq_true rfl) rfl rfl rfl (fun v h' q => ?_)
  obtain ⟨rfl, rfl⟩ := q
  refine am_B.run (hp := false) (sp := []) 200 rfl ?_
  refine am_B.if_eq rfl rfl (fun _ => J22) (fun z => absurd rfl z)
set_option maxRecDepth 100000 in
theorem de_count : decode m_TA_count.2.1 1 = .ok (.tableswitch 48 0 2 #[27, 35, 43], 27) := by decide +kernel
set_option maxRecDepth 100000 in
set_option maxHeartbeats 4000000 in
theorem ct_TA_count (f : Nat) (h : am_H) (k : Nat) (nb nt pc tc : Int32) (hk : k < 3) (h1 : h[1]? = some (c_TA nb nt)) (h2 : h[2]? = some (c_NT pc tc)) : am_Ct am_G0 m_TA_count f 0 0 [.ref 1, .int (nI k)] h (fun v h' => h' = h ∧ v = some (.int (if k = 0 then pc else if k = 1 then tc else nt))) := by
  have hd := de_count
  refine am_Ct.of (E := E_TA_count) e_TA_count (by decide) (Nat.le_of_ble_eq_true rfl) ?_
  refine am_B.run (hp := false) (sp := [1]) 200 rfl ?_
  obtain rfl | rfl | rfl : k = 0 ∨ k = 1 ∨ k = 2 := by omega
  · refine am_B.tswIn (tgt := 28) hd (by decide) (by decide) rfl rfl ?_
    refine am_B.run (hp := false) (sp := []) 200 rfl ?_
    refine am_B.get rfl rfl rfl (by first | assumption | exact gs_s (by first | assumption | exact gs_s (by first | assumption | exact gs_s (by assumption) | (refine gs_n (by decide) ?_; assumption)) | (refine gs_n (by decide) ?_; first | assumption | exact gs_s (by assumption) | (refine gs_n (by decide) ?_; assumption))) | (refine gs_n (by decide) ?_; first | assumption | exact gs_s (by first | assumption | exact gs_s (by assumption) | (refine gs_n (by decide) ?_; assumption)) | (refine gs_n (by decide) ?_; first | assumption | exact gs_s (by assumption) | (refine gs_n (by decide) ?_; assumption)))) rfl rfl ?_
    refine am_B.run (hp := false) (sp := []) 200 rfl ?_
    refine am_B.get rfl rfl rfl (by first | assumption | exact gs_s (by first | assumption | exact gs_s (by first | assumption | exact gs_s (by assumption) | (refine gs_n (by decide) ?_; assumption)) | (refine gs_n (by decide) ?_; first | assumption | exact gs_s (by assumption) | (refine gs_n (by decide) ?_; assumption))) | (refine gs_n (by decide) ?_; first | assumption | exact gs_s (by first | assumption | exact gs_s (by assumption) | (refine gs_n (by decide) ?_; assumption)) | (refine gs_n (by decide) ?_; first | assumption | exact gs_s (by assumption) | (refine gs_n (by decide) ?_; assumption)))) rfl rfl ?_
    exact am_B.iret rfl rfl rfl ⟨rfl, rfl⟩
  · refine am_B.tswIn (tgt := 36) hd (by decide) (by decide) rfl rfl ?_
    refine am_B.run (hp := false) (sp := []) 200 rfl ?_
    refine am_B.get rfl rfl rfl (by first | assumption | exact gs_s (by first | assumption | exact gs_s (by first | assumption | exact gs_s (by assumption) | (refine gs_n (by decide) ?_; assumption)) | (refine gs_n (by decide) ?_; first | assumption | exact gs_s (by assumption) | (refine gs_n (by decide) ?_; assumption))) | (refine gs_n (by decide) ?_; first | assumption | exact gs_s (by first | assumption | exact gs_s (by assumption) | (refine gs_n (by decide) ?_; assumption)) | (refine gs_n (by decide) ?_; first | assumption | exact gs_s (by assumption) | (refine gs_n (by decide) ?_; assumption)))) rfl rfl ?_
    refine am_B.run (hp := false) (sp := []) 200 rfl ?_
    refine am_B.get rfl rfl rfl (by first | assumption | exact gs_s (by first | assumption | exact gs_s (by first | assumption | exact gs_s (by assumption) | (refine gs_n (by decide) ?_; assumption)) | (refine gs_n (by decide) ?_; first | assumption | exact gs_s (by assumption) | (refine gs_n (by decide) ?_; assumption))) | (refine gs_n (by decide) ?_; first | assumption | exact gs_s (by first | assumption | exact gs_s (by assumption) | (refine gs_n (by decide) ?_; assumption)) | (refine gs_n (by decide) ?_; first | assumption | exact gs_s (by assumption) | (refine gs_n (by decide) ?_; assumption)))) rfl rfl ?_
    exact am_B.iret rfl rfl rfl ⟨rfl, rfl⟩
  · refine am_B.tswIn (tgt := 44) hd (by decide) (by decide) rfl rfl ?_
    refine am_B.run (hp := false) (sp := []) 200 rfl ?_
    refine am_B.get rfl rfl rfl (by first | assumption | exact gs_s (by first | assumption | exact gs_s (by first | assumption | exact gs_s (by assumption) | (refine gs_n (by decide) ?_; assumption)) | (refine gs_n (by decide) ?_; first | assumption | exact gs_s (by assumption) | (refine gs_n (by decide) ?_; assumption))) | (refine gs_n (by decide) ?_; first | assumption | exact gs_s (by first | assumption | exact gs_s (by assumption) | (refine gs_n (by decide) ?_; assumption)) | (refine gs_n (by decide) ?_; first | assumption | exact gs_s (by assumption) | (refine gs_n (by decide) ?_; assumption)))) rfl rfl ?_
    exact am_B.iret rfl rfl rfl ⟨rfl, rfl⟩

theorem am_B.copy {E : am_E} {R : Room} {Z : am_Z} {pc : Nat} {lo : am_L} {st : List Value} {h : am_H} {rc rs : Nat} {r : am_Row} {i a0 a1 n0 n1 n : Nat} {f g : Nat → Int32} (hf : am_find E.2.2.2 pc = some r) (hi : r.2.1 = .invokestatic i) (hw1 : Jvm.Cond.methodLink E.2.2.1.1.cls i arraycopyName ∈ E.1.2) (hw2 : Jvm.Cond.native arraycopyName ∈ E.1.2) (hw3 : Jvm.Cond.static arraycopyName ∈ E.1.2) (hw4 : Jvm.Cond.initialized "java/lang/System" ∈ E.1.2)
    (ha0 : h[a0]? = some (.inl (0, n0, .inl f))) (ha1 : h[a1]? = some (.inl (0, n1, .inl g))) (hn0 : n ≤ n0) (hn1 : n ≤ n1) (hn : n < 2 ^ 31) (hw : am_wd st ≤ 8) (hR1 : (Nat.ble 1 R.frames && Nat.ble 30 R.locals) = true)
    (k : am_B E R Z (pc + 3) lo st (h.set a1 (.inl (0, n1, .inl (va_cpy f g 0 0 n)))) rc rs) : am_B E R Z pc lo (.int (nI n) :: .int (nI 0) :: .ref a1 :: .int (nI 0) :: .ref a0 :: st) h rc rs := by
  intro ok l D cA sb base p e s m args below meth c C H locs cells slots ls hR hS h1 h2 hl
  have K := fun H1 l1 q1 q2 => k ok l D cA sb base p e s m args below meth c C H1 l1 cells slots ls q1 q2 h1 h2 hl
  obtain ⟨hm0, rfl⟩ := am_find_ok hf
  obtain ⟨hd, -, -⟩ := ok.2.2 r hm0
  obtain ⟨hx, hb, hml, hret, hown, hts, hK, hlk, hnm⟩ := C
  rw [hi] at hd
  have hc0 := am_at_i (hR.2.2.2 a0 _ ha0) (by decide)
  have hc1 := am_at_i (hR.2.2.2 a1 _ ha1) (by decide)
  obtain ⟨-, k0, hk0, cm0, hkk0⟩ := (hK.2.1 0 .int rfl rfl).1 n0 (fun j => .int (f j))
  obtain ⟨-, k1, hk1, cm1, hkk1⟩ := (hK.2.1 0 .int rfl rfl).1 n1 (fun j => .int (g j))
  have a0' : a1 ≠ 0 := by
    rintro rfl
    obtain ⟨x, hx⟩ := hR.2.2.1
    rw [hx] at ha1
    cases ha1
  have aB : base ≤ am_ad sb base a1 := by
    obtain ⟨j, rfl⟩ : ∃ j, a1 = j + 1 := ⟨a1 - 1, by omega⟩
    exact am_ad_ge
  have hz : (nI 0).toInt = 0 := nI_toInt (by decide)
  have hnn := nI_toInt hn
  have hcn := nI_clamp hn
  have hc00 : (nI 0).toNatClampNeg = 0 := nI_clamp (by decide)
  simp only [Bool.and_eq_true] at hR1
  have hR2 := Nat.le_of_ble_eq_true hR1.1
  have hR3 := Nat.le_of_ble_eq_true hR1.2
  intro T hT X
  obtain ⟨vm', X', step⟩ := X.arraycopy hx hown (hts _ hw1) (hts _ hw2) (hts _ hw3) (hts _ hw4) (src := am_ad sb base a0) (dst := am_ad sb base a1) (cs := arrV (cA 0) n0 (fun j => .int (f j))) (cd := arrV (cA 0) n1 (fun j => .int (g j))) (srcPos := nI 0) (destPos := nI 0) (n := nI n) (by rw [hT]; exact hc0) (by rw [hT]; exact hc1)
    (fun _ h => by cases h) (fun _ h => by cases h) (fun h => by cases h) (fun h => by cases h) hk0 hk1 hkk0 hkk1 (by simp [refKind]) (nI_nlt (Nat.le_refl _) (by decide)) (nI_nlt (Nat.le_refl _) (by decide)) (nI_nlt (Nat.zero_le _) hn)
    (by rw [hz, hnn, arrV_size]; omega)
    (by rw [hz, hnn, arrV_size]; omega)
    (fun vm₁ _ i hi => by
      have e : (arrV (cA 0) n0 (fun j => .int (f j))).slots.getD ((nI 0).toNatClampNeg + i) .null = .int (f ((nI 0).toNatClampNeg + i)) := by
        rw [Array.getD_eq_getD_getElem?, arrV_read _ _ (by rw [hcn] at hi; rw [hc00]; omega)]
        rfl
      refine ⟨?_, ?_⟩
      · rw [e]
        rfl
      · rw [e]
        exact trivial)
    (g := F0 m r.1 ls (.int (nI n) :: .int (nI 0) :: .ref (am_ad sb base a1) :: .int (nI 0) :: .ref (am_ad sb base a0) :: st.map (am_cv sb base))) rfl (by rw [hml]; exact hl.2.1) (rest := st.map (am_cv sb base)) rfl (by rw [hb]; exact hd) hR2 (by
      show 2 * 0 + _ + _ ≤ _
      rw [am_wd_cv]
      have : nativeFrameWords "java/lang/System" "arraycopy" 5 = 7 := by decide
      omega)
  have e1 : copied (arrV (cA 0) n0 (fun j => .int (f j))) (arrV (cA 0) n1 (fun j => .int (g j))) (nI 0) (nI 0) (nI n) = arrV (cA 0) n1 (fun j => .int (va_cpy f g 0 0 n j)) := by
    have := va_copied (fun z => Value.int z) (cA 0) (cA 0) (n0 := n0) (n1 := n1) (sp := (nI 0).toNatClampNeg) (dp := (nI 0).toNatClampNeg) (n := (nI n).toNatClampNeg) f g (by rw [hcn, hc00]; omega)
    rw [hcn, hc00] at this
    show _ = _
    unfold copied
    rw [hcn, hc00]
    exact this
  rw [e1] at X' step
  have hlt : am_ad sb base a1 < H.size := (Array.getElem?_eq_some_iff.mp hc1).1
  have hheap : ((T.setVm vm').setCell (am_ad sb base a1) (arrV (cA 0) n1 (fun j => .int (va_cpy f g 0 0 n j)))).heap = H.setIfInBounds (am_ad sb base a1) (arrV (cA 0) n1 (fun j => .int (va_cpy f g 0 0 n j))) := by rw [← hT]; rfl
  have oq : ∀ q : Nat, q ≠ am_ad sb base a1 → (H.setIfInBounds (am_ad sb base a1) (arrV (cA 0) n1 (fun j => .int (va_cpy f g 0 0 n j))))[q]? = H[q]? := fun q hq => by simp [Array.getElem?_setIfInBounds, Ne.symm hq]
  have hset : (H.setIfInBounds (am_ad sb base a1) (arrV (cA 0) n1 (fun j => .int (va_cpy f g 0 0 n j))))[am_ad sb base a1]? = some (arrV (cA 0) n1 (fun j => .int (va_cpy f g 0 0 n j))) := by simp [Array.getElem?_setIfInBounds, hlt]
  obtain ⟨t, a1', b1⟩ := K _ _ (hR.set ha1 (by simp) oq a0' (am_mk_i (by decide) hset)) ⟨by simp; exact hS.1, fun q g1 g2 => by
      rw [oq q (fun e => g2 (by rw [e]; exact aB))]
      exact hS.2.1 q g1 g2, fun q hq => by
      rcases List.mem_append.mp hq with h | h
      · exact hS.2.2 q h
      · obtain ⟨z, -, hz⟩ := List.mem_map.mp h
        rw [← hz]
        exact aB⟩ _ hheap X'
  exact ⟨t, step t a1', b1⟩
set_option maxRecDepth 100000 in
set_option maxHeartbeats 4000000 in
theorem ct_TR_take (h : am_H) (q b t : Nat) (sz tm al lf wf mf : Int32) (p : Nat) (gb gt : Nat → Int32) (hb : b ≤ 8) (hT : h[28 + 3 * q]? = some (c_TR q sz tm al lf wf mf p)) (hL : h[29 + 3 * q]? = some (ia 8 gt)) (h26 : h[26]? = some (ia 8 gb)) :
    am_Ct am_G0 m_TR_take 1 0 0 [.ref (28 + 3 * q), .ref 26, .int (nI b), .int (nI t)] h (fun v h' => v = none ∧ h' = (h.set (29 + 3 * q) (ia 8 (va_cpy gb gt 0 0 b))).set (28 + 3 * q) (c_TR q (nI b) (nI t) (nI 0) lf wf mf p)) := by
  refine am_Ct.of (E := E_TR_take) e_TR_take (by decide) (Nat.le_of_ble_eq_true rfl) ?_
  refine am_B.run (hp := false) (sp := []) 200 rfl ?_
  refine am_B.get rfl rfl rfl (by first | assumption | exact gs_s (by first | assumption | exact gs_s (by first | assumption | exact gs_s (by assumption) | (refine gs_n (by decide) ?_; assumption)) | (refine gs_n (by decide) ?_; first | assumption | exact gs_s (by assumption) | (refine gs_n (by decide) ?_; assumption))) | (refine gs_n (by decide) ?_; first | assumption | exact gs_s (by first | assumption | exact gs_s (by assumption) | (refine gs_n (by decide) ?_; assumption)) | (refine gs_n (by decide) ?_; first | assumption | exact gs_s (by assumption) | (refine gs_n (by decide) ?_; assumption)))) rfl rfl ?_
  refine am_B.run (hp := false) (sp := []) 200 rfl ?_
  refine am_B.copy (st := []) rfl rfl cw_TR_18 cw_nat cw_sta cw_ini h26 hL hb hb (by omega) (by decide) rfl ?_
  have hT1 : (h.set (29 + 3 * q) (ia 8 (va_cpy gb gt 0 0 b)))[28 + 3 * q]? = some (c_TR q sz tm al lf wf mf p) := gs_n (by omega) hT
  refine am_B.run (hp := false) (sp := []) 200 rfl ?_
  refine am_B.put rfl rfl rfl hT1 rfl (Nat.le_of_ble_eq_true rfl) rfl (fun q => by cases q) ?_
  refine am_B.run (hp := false) (sp := []) 200 rfl ?_
  refine am_B.put rfl rfl rfl (gs_s hT1) rfl (Nat.le_of_ble_eq_true rfl) rfl (fun q => by cases q) ?_
  rw [gs_ss]
  refine am_B.run (hp := false) (sp := []) 200 rfl ?_
  refine am_B.put rfl rfl rfl (gs_s hT1) rfl (Nat.le_of_ble_eq_true rfl) rfl (fun q => by cases q) ?_
  rw [gs_ss]
  exact am_B.vret rfl rfl rfl ⟨rfl, rfl⟩
set_option maxRecDepth 100000 in
set_option maxHeartbeats 4000000 in
theorem ct_TA_store (h : am_H) (k b t : Nat) (sz tm al lf wf mf : Int32) (p : Nat) (gb gt : Nat → Int32) (hk : k < 8) (hb : b ≤ 8) (ht : t ≤ 99) (h1 : h[1]? = some (c_TA (nI b) (nI k))) (h27 : h[27]? = some (ra 4 8 ts_)) (hT : h[28 + 3 * k]? = some (c_TR k sz tm al lf wf mf p)) (hL : h[29 + 3 * k]? = some (ia 8 gt)) (h26 : h[26]? = some (ia 8 gb)) :
    am_Ct am_G0 m_TA_store 2 0 0 [.ref 1, .int (nI t)] h (fun v h' => v = some (.int (nI k)) ∧ h' = ((h.set (29 + 3 * k) (ia 8 (va_cpy gb gt 0 0 b))).set (28 + 3 * k) (c_TR k (nI b) (nI t) (nI 0) lf wf mf p)).set 1 (c_TA (nI 0) (nI (k + 1)))) := by
  refine am_Ct.of (E := E_TA_store) e_TA_store (by decide) (Nat.le_of_ble_eq_true rfl) ?_
  refine am_B.run (hp := false) (sp := []) 200 rfl ?_
  refine am_B.if_lt rfl rfl (fun z => absurd z (nI_nlt (Nat.zero_le t) (by omega))) (fun _ => ?_)
  refine am_B.run (hp := false) (sp := []) 200 rfl ?_
  refine am_B.icmp_le rfl rfl (fun _ => ?_) (fun z => absurd (nI_le ht (by decide)) z)
  refine am_B.run (hp := false) (sp := []) 200 rfl ?_
  refine am_B.get rfl rfl rfl (by first | assumption | exact gs_s (by first | assumption | exact gs_s (by first | assumption | exact gs_s (by assumption) | (refine gs_n (by decide) ?_; assumption)) | (refine gs_n (by decide) ?_; first | assumption | exact gs_s (by assumption) | (refine gs_n (by decide) ?_; assumption))) | (refine gs_n (by decide) ?_; first | assumption | exact gs_s (by first | assumption | exact gs_s (by assumption) | (refine gs_n (by decide) ?_; assumption)) | (refine gs_n (by decide) ?_; first | assumption | exact gs_s (by assumption) | (refine gs_n (by decide) ?_; assumption)))) rfl rfl ?_
  refine am_B.run (hp := false) (sp := []) 200 rfl ?_
  refine am_B.icmp_lt rfl rfl (fun _ => ?_) (fun z => absurd (nI_lt hk (by decide)) z)
  refine am_B.run (hp := false) (sp := []) 200 rfl ?_
  refine am_B.get rfl rfl rfl (by first | assumption | exact gs_s (by first | assumption | exact gs_s (by first | assumption | exact gs_s (by assumption) | (refine gs_n (by decide) ?_; assumption)) | (refine gs_n (by decide) ?_; first | assumption | exact gs_s (by assumption) | (refine gs_n (by decide) ?_; assumption))) | (refine gs_n (by decide) ?_; first | assumption | exact gs_s (by first | assumption | exact gs_s (by assumption) | (refine gs_n (by decide) ?_; assumption)) | (refine gs_n (by decide) ?_; first | assumption | exact gs_s (by assumption) | (refine gs_n (by decide) ?_; assumption)))) rfl rfl ?_
  refine am_B.run (hp := false) (sp := []) 200 rfl ?_
  refine am_B.get rfl rfl rfl (by first | assumption | exact gs_s (by first | assumption | exact gs_s (by first | assumption | exact gs_s (by assumption) | (refine gs_n (by decide) ?_; assumption)) | (refine gs_n (by decide) ?_; first | assumption | exact gs_s (by assumption) | (refine gs_n (by decide) ?_; assumption))) | (refine gs_n (by decide) ?_; first | assumption | exact gs_s (by first | assumption | exact gs_s (by assumption) | (refine gs_n (by decide) ?_; assumption)) | (refine gs_n (by decide) ?_; first | assumption | exact gs_s (by assumption) | (refine gs_n (by decide) ?_; assumption)))) rfl rfl ?_
  refine am_B.run (hp := false) (sp := []) 200 rfl ?_
  refine am_B.ald rfl h27 (vp_n (show k < 8 by omega) rfl) (ts_get (show k < 8 by omega)) ?_
  refine am_B.run (hp := false) (sp := []) 200 rfl ?_
  refine am_B.get rfl rfl rfl (by first | assumption | exact gs_s (by first | assumption | exact gs_s (by first | assumption | exact gs_s (by assumption) | (refine gs_n (by decide) ?_; assumption)) | (refine gs_n (by decide) ?_; first | assumption | exact gs_s (by assumption) | (refine gs_n (by decide) ?_; assumption))) | (refine gs_n (by decide) ?_; first | assumption | exact gs_s (by first | assumption | exact gs_s (by assumption) | (refine gs_n (by decide) ?_; assumption)) | (refine gs_n (by decide) ?_; first | assumption | exact gs_s (by assumption) | (refine gs_n (by decide) ?_; assumption)))) rfl rfl ?_
  refine am_B.run (hp := false) (sp := []) 200 rfl ?_
  refine am_B.get rfl rfl rfl (by first | assumption | exact gs_s (by first | assumption | exact gs_s (by first | assumption | exact gs_s (by assumption) | (refine gs_n (by decide) ?_; assumption)) | (refine gs_n (by decide) ?_; first | assumption | exact gs_s (by assumption) | (refine gs_n (by decide) ?_; assumption))) | (refine gs_n (by decide) ?_; first | assumption | exact gs_s (by first | assumption | exact gs_s (by assumption) | (refine gs_n (by decide) ?_; assumption)) | (refine gs_n (by decide) ?_; first | assumption | exact gs_s (by assumption) | (refine gs_n (by decide) ?_; assumption)))) rfl rfl ?_
  refine am_B.run (hp := false) (sp := []) 200 rfl ?_
  refine am_B.callV (ci := 4) (n := 3) (as := [.ref 26, .int (nI b), .int (nI t)]) rfl rfl rfl (ct_TR_take h k b t sz tm al lf wf mf p gb gt hb hT hL h26) rfl rfl (by exact Nat.le_of_ble_eq_true rfl) rfl hT rfl rfl (fun v h' z => ?_)
  obtain ⟨rfl, rfl⟩ := z
  have g1 : ((h.set (29 + 3 * k) (ia 8 (va_cpy gb gt 0 0 b))).set (28 + 3 * k) (c_TR k (nI b) (nI t) (nI 0) lf wf mf p))[1]? = some (c_TA (nI b) (nI k)) := gs_n (by omega) (gs_n (by omega) h1)
  refine am_B.run (hp := false) (sp := []) 200 rfl ?_
  refine am_B.put rfl rfl rfl g1 rfl (Nat.le_of_ble_eq_true rfl) rfl (fun q => by cases q) ?_
  refine am_B.run (hp := false) (sp := []) 200 rfl ?_
  refine am_B.get rfl rfl rfl (gs_s g1) rfl rfl ?_
  refine am_B.run (hp := false) (sp := []) 200 rfl ?_
  refine am_B.put rfl rfl rfl (gs_s g1) rfl (Nat.le_of_ble_eq_true rfl) rfl (fun q => by cases q) ?_
  rw [gs_ss]
  show am_B _ _ _ _ _ _ (((h.set (29 + 3 * k) (ia 8 (va_cpy gb gt 0 0 b))).set (28 + 3 * k) (c_TR k (nI b) (nI t) (nI 0) lf wf mf p)).set 1 (c_TA (nI 0) (nI k + nI 1))) _ _
  rw [nI_add]
  refine am_B.run (hp := false) (sp := []) 200 rfl ?_
  refine am_B.get rfl rfl rfl (gs_s g1) rfl rfl ?_
  refine am_B.run (hp := false) (sp := []) 200 rfl ?_
  exact am_B.iret rfl rfl rfl ⟨by rw [nI_prd], rfl⟩
set_option maxRecDepth 100000 in
set_option maxHeartbeats 4000000 in
theorem ct_TA_event (h : am_H) (l b : Nat) (nt : Int32) (gb : Nat → Int32) (hl : l < 6) (hb : b < 8) (h1 : h[1]? = some (c_TA (nI b) nt)) (h26 : h[26]? = some (ia 8 gb)) :
    am_Ct am_G0 m_TA_event 1 0 0 [.ref 1, .int (nI l)] h (fun v h' => v = some (.int (nI (b + 1))) ∧ h' = (h.set 26 (ia 8 (upd gb b (nI l)))).set 1 (c_TA (nI (b + 1)) nt)) := by
  refine am_Ct.of (E := E_TA_event) e_TA_event (by decide) (Nat.le_of_ble_eq_true rfl) ?_
  refine am_B.run (hp := false) (sp := []) 200 rfl ?_
  refine am_B.callS (n := 1) (as := [.int (nI l)]) rfl rfl rfl (ct_TA_isNoLabel 0 _ l hl) rfl rfl (by exact Nat.le_of_ble_eq_true rfl) rfl rfl rfl (fun v h' q => ?_)
  obtain ⟨rfl, rfl⟩ := q
  refine am_B.run (hp := false) (sp := []) 200 rfl ?_
  refine am_B.if_eq rfl rfl (fun _ => ?_) (fun z => absurd rfl z)
  refine am_B.run (hp := false) (sp := []) 200 rfl ?_
  refine am_B.get rfl rfl rfl (by first | assumption | exact gs_s (by first | assumption | exact gs_s (by first | assumption | exact gs_s (by assumption) | (refine gs_n (by decide) ?_; assumption)) | (refine gs_n (by decide) ?_; first | assumption | exact gs_s (by assumption) | (refine gs_n (by decide) ?_; assumption))) | (refine gs_n (by decide) ?_; first | assumption | exact gs_s (by first | assumption | exact gs_s (by assumption) | (refine gs_n (by decide) ?_; assumption)) | (refine gs_n (by decide) ?_; first | assumption | exact gs_s (by assumption) | (refine gs_n (by decide) ?_; assumption)))) rfl rfl ?_
  refine am_B.run (hp := false) (sp := []) 200 rfl ?_
  refine am_B.icmp_lt rfl rfl (fun _ => ?_) (fun z => absurd (nI_lt hb (by decide)) z)
  refine am_B.run (hp := false) (sp := []) 200 rfl ?_
  refine am_B.get rfl rfl rfl (by first | assumption | exact gs_s (by first | assumption | exact gs_s (by first | assumption | exact gs_s (by assumption) | (refine gs_n (by decide) ?_; assumption)) | (refine gs_n (by decide) ?_; first | assumption | exact gs_s (by assumption) | (refine gs_n (by decide) ?_; assumption))) | (refine gs_n (by decide) ?_; first | assumption | exact gs_s (by first | assumption | exact gs_s (by assumption) | (refine gs_n (by decide) ?_; assumption)) | (refine gs_n (by decide) ?_; first | assumption | exact gs_s (by assumption) | (refine gs_n (by decide) ?_; assumption)))) rfl rfl ?_
  refine am_B.run (hp := false) (sp := []) 200 rfl ?_
  refine am_B.get rfl rfl rfl (by first | assumption | exact gs_s (by first | assumption | exact gs_s (by first | assumption | exact gs_s (by assumption) | (refine gs_n (by decide) ?_; assumption)) | (refine gs_n (by decide) ?_; first | assumption | exact gs_s (by assumption) | (refine gs_n (by decide) ?_; assumption))) | (refine gs_n (by decide) ?_; first | assumption | exact gs_s (by first | assumption | exact gs_s (by assumption) | (refine gs_n (by decide) ?_; assumption)) | (refine gs_n (by decide) ?_; first | assumption | exact gs_s (by assumption) | (refine gs_n (by decide) ?_; assumption)))) rfl rfl ?_
  refine am_B.run (hp := false) (sp := []) 200 rfl ?_
  refine am_B.ast rfl h26 (vp_n hb rfl) rfl ?_
  rw [nI_clamp (show b < 2 ^ 31 by omega)]
  refine am_B.run (hp := false) (sp := []) 200 rfl ?_
  refine am_B.get rfl rfl rfl (by first | assumption | exact gs_s (by first | assumption | exact gs_s (by first | assumption | exact gs_s (by assumption) | (refine gs_n (by decide) ?_; assumption)) | (refine gs_n (by decide) ?_; first | assumption | exact gs_s (by assumption) | (refine gs_n (by decide) ?_; assumption))) | (refine gs_n (by decide) ?_; first | assumption | exact gs_s (by first | assumption | exact gs_s (by assumption) | (refine gs_n (by decide) ?_; assumption)) | (refine gs_n (by decide) ?_; first | assumption | exact gs_s (by assumption) | (refine gs_n (by decide) ?_; assumption)))) rfl rfl ?_
  refine am_B.run (hp := false) (sp := []) 200 rfl ?_
  refine am_B.put rfl rfl rfl (by first | assumption | exact gs_s (by first | assumption | exact gs_s (by first | assumption | exact gs_s (by assumption) | (refine gs_n (by decide) ?_; assumption)) | (refine gs_n (by decide) ?_; first | assumption | exact gs_s (by assumption) | (refine gs_n (by decide) ?_; assumption))) | (refine gs_n (by decide) ?_; first | assumption | exact gs_s (by first | assumption | exact gs_s (by assumption) | (refine gs_n (by decide) ?_; assumption)) | (refine gs_n (by decide) ?_; first | assumption | exact gs_s (by assumption) | (refine gs_n (by decide) ?_; assumption)))) rfl (Nat.le_of_ble_eq_true rfl) rfl (fun q => by cases q) ?_
  show am_B _ _ _ _ _ _ ((h'.set 26 (ia 8 (upd gb b (nI l)))).set 1 (c_TA (nI b + nI 1) nt)) _ _
  rw [nI_add]
  refine am_B.run (hp := false) (sp := []) 200 rfl ?_
  refine am_B.get rfl rfl rfl (gs_s (gs_n (by decide) h1)) rfl rfl ?_
  exact am_B.iret rfl rfl rfl ⟨rfl, rfl⟩
