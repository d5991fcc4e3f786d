/-! CALLS of the aligner that change its net, as the law makes them: nothing is explored or aligned yet -/
def calm (h : am_H) : Prop := h[27]? = some (ra 4 8 ts_) ∧ (∃ sz la, h[9]? = some (c_MG (nI 0) sz la)) ∧ ∀ i, i < 8 → ∃ sz tm lf wf mf p, h[28 + 3 * i]? = some (c_TR i sz tm (nI 0) lf wf mf p)
set_option maxRecDepth 100000 in
set_option maxHeartbeats 4000000 in
theorem ct_TA_forgetAlignments (f : Nat) (h : am_H) (nb nt : Int32) (h1 : h[1]? = some (c_TA nb nt)) (K : calm h) : am_Ct am_G0 m_TA_forgetAlignments f 0 0 [.ref 1] h (fun v h' => v = none ∧ h' = h) := by
  have h27 := K.1
  refine am_Ct.of (E := E_TA_forgetAlignments) e_TA_forgetAlignments (by decide) (Nat.le_of_ble_eq_true rfl) ?_
  have L : ∀ d i, i + d = 8 → am_B E_TA_forgetAlignments (am_rm f 0 0) (am_ZM E_TA_forgetAlignments 0 0 (fun v h' => v = none ∧ h' = h)) 2 [some (.ref 1), some (.int (nI i))] [] h 0 0 := by
    intro d
    induction d with
    | zero =>
      intro i hi
      refine am_B.run (hp := false) (sp := []) 200 rfl ?_
      refine am_B.icmp_ge rfl rfl (fun _ => ?_) (fun q => absurd (nI_le (by omega) (by omega)) q)
      exact am_B.vret rfl rfl rfl ⟨rfl, rfl⟩
    | succ d ih =>
      intro i hi
      refine am_B.run (hp := false) (sp := []) 200 rfl ?_
      refine am_B.icmp_ge rfl rfl (fun q => absurd q (nI_ge (by omega) (by omega))) (fun _ => ?_)
      refine am_B.run (hp := false) (sp := []) 200 rfl ?_
      refine am_B.get rfl rfl rfl (by first | assumption | exact gs_s (by first | assumption | exact gs_s (by first | assumption | exact gs_s (by assumption) | (refine gs_n (by decide) ?_; assumption)) | (refine gs_n (by decide) ?_; first | assumption | exact gs_s (by assumption) | (refine gs_n (by decide) ?_; assumption))) | (refine gs_n (by decide) ?_; first | assumption | exact gs_s (by first | assumption | exact gs_s (by assumption) | (refine gs_n (by decide) ?_; assumption)) | (refine gs_n (by decide) ?_; first | assumption | exact gs_s (by assumption) | (refine gs_n (by decide) ?_; assumption)))) rfl rfl ?_
      refine am_B.run (hp := false) (sp := []) 200 rfl ?_
      refine am_B.ald rfl h27 (vp_n (show i < 8 by omega) rfl) (ts_get (show i < 8 by omega)) ?_
      refine am_B.run (hp := false) (sp := []) 200 rfl ?_
      obtain ⟨sz, tm, lf, wf, mf, p, hti⟩ := K.2.2 i (by omega)
      refine am_B.put rfl rfl rfl hti rfl (Nat.le_of_ble_eq_true rfl) rfl (fun q => by cases q) ?_
      have e : h.set (28 + 3 * i) (c_TR i sz tm (nI 0) lf wf mf p) = h := gs_id hti
      show am_B _ _ _ _ _ _ (h.set (28 + 3 * i) (c_TR i sz tm (nI 0) lf wf mf p)) _ _
      rw [e]
      refine am_B.run (hp := false) (sp := [2]) 200 rfl ?_
      rw [nI_add]
      exact ih (i + 1) (by omega)
  refine am_B.run (hp := false) (sp := [2]) 200 rfl ?_
  exact L 8 0 (by omega)
set_option maxRecDepth 100000 in
set_option maxHeartbeats 4000000 in
theorem ct_TA_forgetMarkings (h : am_H) (nb nt : Int32) (h1 : h[1]? = some (c_TA nb nt)) (K : calm h) : am_Ct am_G0 m_TA_forgetMarkings 1 0 0 [.ref 1] h (fun v h' => v = none ∧ h' = h) := by
  obtain ⟨sz, la, h9⟩ := K.2.1
  refine am_Ct.of (E := E_TA_forgetMarkings) e_TA_forgetMarkings (by decide) (Nat.le_of_ble_eq_true rfl) ?_
  refine am_B.run (hp := false) (sp := []) 200 rfl ?_
  refine am_B.get rfl rfl rfl (by first | assumption | exact gs_s (by first | assumption | exact gs_s (by first | assumption | exact gs_s (by assumption) | (refine gs_n (by decide) ?_; assumption)) | (refine gs_n (by decide) ?_; first | assumption | exact gs_s (by assumption) | (refine gs_n (by decide) ?_; assumption))) | (refine gs_n (by decide) ?_; first | assumption | exact gs_s (by first | assumption | exact gs_s (by assumption) | (refine gs_n (by decide) ?_; assumption)) | (refine gs_n (by decide) ?_; first | assumption | exact gs_s (by assumption) | (refine gs_n (by decide) ?_; assumption)))) rfl rfl ?_
  refine am_B.run (hp := false) (sp := []) 200 rfl ?_
  refine am_B.put rfl rfl rfl (by first | assumption | exact gs_s (by first | assumption | exact gs_s (by first | assumption | exact gs_s (by assumption) | (refine gs_n (by decide) ?_; assumption)) | (refine gs_n (by decide) ?_; first | assumption | exact gs_s (by assumption) | (refine gs_n (by decide) ?_; assumption))) | (refine gs_n (by decide) ?_; first | assumption | exact gs_s (by first | assumption | exact gs_s (by assumption) | (refine gs_n (by decide) ?_; assumption)) | (refine gs_n (by decide) ?_; first | assumption | exact gs_s (by assumption) | (refine gs_n (by decide) ?_; assumption)))) rfl (Nat.le_of_ble_eq_true rfl) rfl (fun q => by cases q) ?_
  have e : h.set 9 (c_MG (nI 0) sz la) = h := gs_id h9
  show am_B _ _ _ _ _ _ (h.set 9 (c_MG (nI 0) sz la)) _ _
  rw [e]
  refine am_B.run (hp := false) (sp := []) 200 rfl ?_
  refine am_B.callV (ci := 0) (n := 0) (as := []) rfl rfl rfl (ct_TA_forgetAlignments 0 h nb nt h1 K) rfl rfl (by exact Nat.le_of_ble_eq_true rfl) rfl h1 rfl rfl (fun v h' z => ?_)
  obtain ⟨rfl, rfl⟩ := z
  exact am_B.vret rfl rfl rfl ⟨rfl, rfl⟩
set_option maxRecDepth 100000 in
set_option maxHeartbeats 4000000 in
theorem ct_NT_appendPlace (f : Nat) (h : am_H) (P : Nat) (tc : Int32) (h2 : h[2]? = some (c_NT (nI P) tc)) : am_Ct am_G0 m_NT_appendPlace f 0 0 [.ref 2] h (fun v h' => v = some (.int (nI P)) ∧ h' = h.set 2 (c_NT (nI (P + 1)) tc)) := by
  refine am_Ct.of (E := E_NT_appendPlace) e_NT_appendPlace (by decide) (Nat.le_of_ble_eq_true rfl) ?_
  refine am_B.run (hp := false) (sp := []) 200 rfl ?_
  refine am_B.get rfl rfl rfl (by first | assumption | exact gs_s (by first | assumption | exact gs_s (by first | assumption | exact gs_s (by assumption) | (refine gs_n (by decide) ?_; assumption)) | (refine gs_n (by decide) ?_; first | assumption | exact gs_s (by assumption) | (refine gs_n (by decide) ?_; assumption))) | (refine gs_n (by decide) ?_; first | assumption | exact gs_s (by first | assumption | exact gs_s (by assumption) | (refine gs_n (by decide) ?_; assumption)) | (refine gs_n (by decide) ?_; first | assumption | exact gs_s (by assumption) | (refine gs_n (by decide) ?_; assumption)))) rfl rfl ?_
  refine am_B.run (hp := false) (sp := []) 200 rfl ?_
  refine am_B.put rfl rfl rfl (by first | assumption | exact gs_s (by first | assumption | exact gs_s (by first | assumption | exact gs_s (by assumption) | (refine gs_n (by decide) ?_; assumption)) | (refine gs_n (by decide) ?_; first | assumption | exact gs_s (by assumption) | (refine gs_n (by decide) ?_; assumption))) | (refine gs_n (by decide) ?_; first | assumption | exact gs_s (by first | assumption | exact gs_s (by assumption) | (refine gs_n (by decide) ?_; assumption)) | (refine gs_n (by decide) ?_; first | assumption | exact gs_s (by assumption) | (refine gs_n (by decide) ?_; assumption)))) rfl (Nat.le_of_ble_eq_true rfl) rfl (fun q => by cases q) ?_
  show am_B _ _ _ _ _ _ (h.set 2 (c_NT (nI P + nI 1) tc)) _ _
  rw [nI_add]
  refine am_B.run (hp := false) (sp := []) 200 rfl ?_
  refine am_B.get rfl rfl rfl (gs_s h2) rfl rfl ?_
  refine am_B.run (hp := false) (sp := []) 200 rfl ?_
  exact am_B.iret rfl rfl rfl ⟨by rw [nI_prd], rfl⟩
set_option maxRecDepth 100000 in
set_option maxHeartbeats 4000000 in
theorem ct_TA_addPlace (h : am_H) (P : Nat) (nb nt tc : Int32) (hP : P < 8) (h1 : h[1]? = some (c_TA nb nt)) (h2 : h[2]? = some (c_NT (nI P) tc)) (K : calm h) : am_Ct am_G0 m_TA_addPlace 2 0 0 [.ref 1] h (fun v h' => v = some (.int (nI P)) ∧ h' = h.set 2 (c_NT (nI (P + 1)) tc)) := by
  refine am_Ct.of (E := E_TA_addPlace) e_TA_addPlace (by decide) (Nat.le_of_ble_eq_true rfl) ?_
  refine am_B.run (hp := false) (sp := []) 200 rfl ?_
  refine am_B.get rfl rfl rfl (by first | assumption | exact gs_s (by first | assumption | exact gs_s (by first | assumption | exact gs_s (by assumption) | (refine gs_n (by decide) ?_; assumption)) | (refine gs_n (by decide) ?_; first | assumption | exact gs_s (by assumption) | (refine gs_n (by decide) ?_; assumption))) | (refine gs_n (by decide) ?_; first | assumption | exact gs_s (by first | assumption | exact gs_s (by assumption) | (refine gs_n (by decide) ?_; assumption)) | (refine gs_n (by decide) ?_; first | assumption | exact gs_s (by assumption) | (refine gs_n (by decide) ?_; assumption)))) rfl rfl ?_
  refine am_B.run (hp := false) (sp := []) 200 rfl ?_
  refine am_B.get rfl rfl rfl (by first | assumption | exact gs_s (by first | assumption | exact gs_s (by first | assumption | exact gs_s (by assumption) | (refine gs_n (by decide) ?_; assumption)) | (refine gs_n (by decide) ?_; first | assumption | exact gs_s (by assumption) | (refine gs_n (by decide) ?_; assumption))) | (refine gs_n (by decide) ?_; first | assumption | exact gs_s (by first | assumption | exact gs_s (by assumption) | (refine gs_n (by decide) ?_; assumption)) | (refine gs_n (by decide) ?_; first | assumption | exact gs_s (by assumption) | (refine gs_n (by decide) ?_; assumption)))) rfl rfl ?_
  refine am_B.run (hp := false) (sp := []) 200 rfl ?_
  refine am_B.icmp_lt rfl rfl (fun _ => ?_) (fun z => absurd (nI_lt hP (by decide)) z)
  refine am_B.run (hp := false) (sp := []) 200 rfl ?_
  refine am_B.callV (ci := 0) (n := 0) (as := []) rfl rfl rfl (ct_TA_forgetMarkings h nb nt h1 K) rfl rfl (by exact Nat.le_of_ble_eq_true rfl) rfl h1 rfl rfl (fun v h' z => ?_)
  obtain ⟨rfl, rfl⟩ := z
  refine am_B.run (hp := false) (sp := []) 200 rfl ?_
  refine am_B.get rfl rfl rfl (by first | assumption | exact gs_s (by first | assumption | exact gs_s (by first | assumption | exact gs_s (by assumption) | (refine gs_n (by decide) ?_; assumption)) | (refine gs_n (by decide) ?_; first | assumption | exact gs_s (by assumption) | (refine gs_n (by decide) ?_; assumption))) | (refine gs_n (by decide) ?_; first | assumption | exact gs_s (by first | assumption | exact gs_s (by assumption) | (refine gs_n (by decide) ?_; assumption)) | (refine gs_n (by decide) ?_; first | assumption | exact gs_s (by assumption) | (refine gs_n (by decide) ?_; assumption)))) rfl rfl ?_
  refine am_B.run (hp := false) (sp := []) 200 rfl ?_
  refine am_B.callV (ci := 1) (n := 0) (as := []) rfl rfl rfl (ct_NT_appendPlace 0 _ P tc h2) rfl rfl (by exact Nat.le_of_ble_eq_true rfl) rfl h2 rfl rfl (fun v h' z => ?_)
  obtain ⟨rfl, rfl⟩ := z
  refine am_B.run (hp := false) (sp := []) 200 rfl ?_
  exact am_B.iret rfl rfl rfl ⟨rfl, rfl⟩
set_option maxRecDepth 100000 in
set_option maxHeartbeats 4000000 in
theorem ct_NT_appendTransition (f : Nat) (h : am_H) (T : Nat) (pc x : Int32) (gl gco : Nat → Int32) (hT : T < 10) (h2 : h[2]? = some (c_NT pc (nI T))) (h3 : h[3]? = some (ia 10 gl)) (h4 : h[4]? = some (ia 10 gco)) : am_Ct am_G0 m_NT_appendTransition f 0 0 [.ref 2, .int x] h (fun v h' => v = some (.int (nI T)) ∧
    h' = ((h.set 3 (ia 10 (upd gl T x))).set 4 (ia 10 (upd gco T (if x = -1 then nI 0 else nI 1)))).set 2 (c_NT pc (nI (T + 1)))) := by
  refine am_Ct.of (E := E_NT_appendTransition) e_NT_appendTransition (by decide) (Nat.le_of_ble_eq_true rfl) ?_
  refine am_B.run (hp := false) (sp := []) 200 rfl ?_
  refine am_B.get rfl rfl rfl (by first | assumption | exact gs_s (by first | assumption | exact gs_s (by first | assumption | exact gs_s (by assumption) | (refine gs_n (by decide) ?_; assumption)) | (refine gs_n (by decide) ?_; first | assumption | exact gs_s (by assumption) | (refine gs_n (by decide) ?_; assumption))) | (refine gs_n (by decide) ?_; first | assumption | exact gs_s (by first | assumption | exact gs_s (by assumption) | (refine gs_n (by decide) ?_; assumption)) | (refine gs_n (by decide) ?_; first | assumption | exact gs_s (by assumption) | (refine gs_n (by decide) ?_; assumption)))) rfl rfl ?_
  refine am_B.run (hp := false) (sp := []) 200 rfl ?_
  refine am_B.get rfl rfl rfl (by first | assumption | exact gs_s (by first | assumption | exact gs_s (by first | assumption | exact gs_s (by assumption) | (refine gs_n (by decide) ?_; assumption)) | (refine gs_n (by decide) ?_; first | assumption | exact gs_s (by assumption) | (refine gs_n (by decide) ?_; assumption))) | (refine gs_n (by decide) ?_; first | assumption | exact gs_s (by first | assumption | exact gs_s (by assumption) | (refine gs_n (by decide) ?_; assumption)) | (refine gs_n (by decide) ?_; first | assumption | exact gs_s (by assumption) | (refine gs_n (by decide) ?_; assumption)))) rfl rfl ?_
  refine am_B.run (hp := false) (sp := []) 200 rfl ?_
  refine am_B.ast rfl h3 (vp_n hT rfl) rfl ?_
  rw [nI_clamp (show T < 2 ^ 31 by omega)]
  refine am_B.run (hp := false) (sp := []) 200 rfl ?_
  refine am_B.get rfl rfl rfl (by first | assumption | exact gs_s (by first | assumption | exact gs_s (by first | assumption | exact gs_s (by assumption) | (refine gs_n (by decide) ?_; assumption)) | (refine gs_n (by decide) ?_; first | assumption | exact gs_s (by assumption) | (refine gs_n (by decide) ?_; assumption))) | (refine gs_n (by decide) ?_; first | assumption | exact gs_s (by first | assumption | exact gs_s (by assumption) | (refine gs_n (by decide) ?_; assumption)) | (refine gs_n (by decide) ?_; first | assumption | exact gs_s (by assumption) | (refine gs_n (by decide) ?_; assumption)))) rfl rfl ?_
  refine am_B.run (hp := false) (sp := []) 200 rfl ?_
  refine am_B.get rfl rfl rfl (by first | assumption | exact gs_s (by first | assumption | exact gs_s (by first | assumption | exact gs_s (by assumption) | (refine gs_n (by decide) ?_; assumption)) | (refine gs_n (by decide) ?_; first | assumption | exact gs_s (by assumption) | (refine gs_n (by decide) ?_; assumption))) | (refine gs_n (by decide) ?_; first | assumption | exact gs_s (by first | assumption | exact gs_s (by assumption) | (refine gs_n (by decide) ?_; assumption)) | (refine gs_n (by decide) ?_; first | assumption | exact gs_s (by assumption) | (refine gs_n (by decide) ?_; assumption)))) rfl rfl ?_
  refine am_B.run (hp := false) (sp := []) 200 rfl ?_
  have J28 : ∀ c : Int32, c = (if x = -1 then nI 0 else nI 1) → am_B E_NT_appendTransition (am_rm f 0 0) (am_ZM E_NT_appendTransition 0 0 (fun v h' => v = some (.int (nI T)) ∧ h' = ((h.set 3 (ia 10 (upd gl T x))).set 4 (ia 10 (upd gco T (if x = -1 then nI 0 else nI 1)))).set 2 (c_NT pc (nI (T + 1)))))
      28 [some (.ref 2), some (.int x)] [.int c, .int (nI T), .ref 4] (h.set 3 (ia 10 (upd gl T x))) 0 0 := by
    intro c hc
    refine am_B.ast rfl (gs_n (by decide) h4) (vp_n hT rfl) rfl ?_
    rw [nI_clamp (show T < 2 ^ 31 by omega), hc]
    refine am_B.run (hp := false) (sp := []) 200 rfl ?_
    refine am_B.get rfl rfl rfl (by first | assumption | exact gs_s (by first | assumption | exact gs_s (by first | assumption | exact gs_s (by assumption) | (refine gs_n (by decide) ?_; assumption)) | (refine gs_n (by decide) ?_; first | assumption | exact gs_s (by assumption) | (refine gs_n (by decide) ?_; assumption))) | (refine gs_n (by decide) ?_; first | assumption | exact gs_s (by first | assumption | exact gs_s (by assumption) | (refine gs_n (by decide) ?_; assumption)) | (refine gs_n (by decide) ?_; first | assumption | exact gs_s (by assumption) | (refine gs_n (by decide) ?_; assumption)))) rfl rfl ?_
    refine am_B.run (hp := false) (sp := []) 200 rfl ?_
    refine am_B.put rfl rfl rfl (by first | assumption | exact gs_s (by first | assumption | exact gs_s (by first | assumption | exact gs_s (by assumption) | (refine gs_n (by decide) ?_; assumption)) | (refine gs_n (by decide) ?_; first | assumption | exact gs_s (by assumption) | (refine gs_n (by decide) ?_; assumption))) | (refine gs_n (by decide) ?_; first | assumption | exact gs_s (by first | assumption | exact gs_s (by assumption) | (refine gs_n (by decide) ?_; assumption)) | (refine gs_n (by decide) ?_; first | assumption | exact gs_s (by assumption) | (refine gs_n (by decide) ?_; assumption)))) rfl (Nat.le_of_ble_eq_true rfl) rfl (fun q => by cases q) ?_
    show am_B _ _ _ _ _ _ (((h.set 3 (ia 10 (upd gl T x))).set 4 (ia 10 (upd gco T (if x = -1 then nI 0 else nI 1)))).set 2 (c_NT pc (nI T + nI 1))) _ _
    rw [nI_add]
    refine am_B.run (hp := false) (sp := []) 200 rfl ?_
    refine am_B.get rfl rfl rfl (gs_s (gs_n (by decide) (gs_n (by decide) h2))) rfl rfl ?_
    refine am_B.run (hp := false) (sp := []) 200 rfl ?_
    exact am_B.iret rfl rfl rfl ⟨by rw [nI_prd], rfl⟩
  refine am_B.icmp_ne rfl rfl (fun z => ?_) (fun z => ?_)
  · refine am_B.run (hp := false) (sp := [28]) 200 rfl ?_
    exact J28 _ (by rw [if_neg z])
  · refine am_B.run (hp := false) (sp := [28]) 200 rfl ?_
    exact J28 _ (by rw [if_pos z])
set_option maxRecDepth 100000 in
set_option maxHeartbeats 4000000 in
theorem ct_TA_addTransition (h : am_H) (T : Nat) (nb nt pc x : Int32) (gl gco : Nat → Int32) (hT : T < 10) (hx : x = -1 ∨ ∃ l, l < 6 ∧ x = nI l) (h1 : h[1]? = some (c_TA nb nt)) (h2 : h[2]? = some (c_NT pc (nI T))) (h3 : h[3]? = some (ia 10 gl)) (h4 : h[4]? = some (ia 10 gco)) (K : calm h) : am_Ct am_G0 m_TA_addTransition 2 0 0 [.ref 1, .int x] h (fun v h' => v = some (.int (nI T)) ∧
    h' = ((h.set 3 (ia 10 (upd gl T x))).set 4 (ia 10 (upd gco T (if x = -1 then nI 0 else nI 1)))).set 2 (c_NT pc (nI (T + 1)))) := by
  refine am_Ct.of (E := E_TA_addTransition) e_TA_addTransition (by decide) (Nat.le_of_ble_eq_true rfl) ?_
  have J22 : am_B E_TA_addTransition (am_rm 2 0 0) (am_ZM E_TA_addTransition 0 0 (fun v h' => v = some (.int (nI T)) ∧ h' = ((h.set 3 (ia 10 (upd gl T x))).set 4 (ia 10 (upd gco T (if x = -1 then nI 0 else nI 1)))).set 2 (c_NT pc (nI (T + 1)))))
      22 [some (.ref 1), some (.int x)] [] h 0 0 := by
    refine am_B.run (hp := false) (sp := []) 200 rfl ?_
    refine am_B.get rfl rfl rfl (by first | assumption | exact gs_s (by first | assumption | exact gs_s (by first | assumption | exact gs_s (by assumption) | (refine gs_n (by decide) ?_; assumption)) | (refine gs_n (by decide) ?_; first | assumption | exact gs_s (by assumption) | (refine gs_n (by decide) ?_; assumption))) | (refine gs_n (by decide) ?_; first | assumption | exact gs_s (by first | assumption | exact gs_s (by assumption) | (refine gs_n (by decide) ?_; assumption)) | (refine gs_n (by decide) ?_; first | assumption | exact gs_s (by assumption) | (refine gs_n (by decide) ?_; assumption)))) rfl rfl ?_
    refine am_B.run (hp := false) (sp := []) 200 rfl ?_
    refine am_B.get rfl rfl rfl (by first | assumption | exact gs_s (by first | assumption | exact gs_s (by first | assumption | exact gs_s (by assumption) | (refine gs_n (by decide) ?_; assumption)) | (refine gs_n (by decide) ?_; first | assumption | exact gs_s (by assumption) | (refine gs_n (by decide) ?_; assumption))) | (refine gs_n (by decide) ?_; first | assumption | exact gs_s (by first | assumption | exact gs_s (by assumption) | (refine gs_n (by decide) ?_; assumption)) | (refine gs_n (by decide) ?_; first | assumption | exact gs_s (by assumption) | (refine gs_n (by decide) ?_; assumption)))) rfl rfl ?_
    refine am_B.run (hp := false) (sp := []) 200 rfl ?_
    refine am_B.icmp_lt rfl rfl (fun _ => ?_) (fun z => absurd (nI_lt hT (by decide)) z)
    refine am_B.run (hp := false) (sp := []) 200 rfl ?_
    refine am_B.callV (ci := 0) (n := 0) (as := []) rfl rfl rfl (ct_TA_forgetMarkings h nb nt h1 K) rfl rfl (by exact Nat.le_of_ble_eq_true rfl) rfl h1 rfl rfl (fun v h' z => ?_)
    obtain ⟨rfl, rfl⟩ := z
    refine am_B.run (hp := false) (sp := []) 200 rfl ?_
    refine am_B.get rfl rfl rfl (by first | assumption | exact gs_s (by first | assumption | exact gs_s (by first | assumption | exact gs_s (by assumption) | (refine gs_n (by decide) ?_; assumption)) | (refine gs_n (by decide) ?_; first | assumption | exact gs_s (by assumption) | (refine gs_n (by decide) ?_; assumption))) | (refine gs_n (by decide) ?_; first | assumption | exact gs_s (by first | assumption | exact gs_s (by assumption) | (refine gs_n (by decide) ?_; assumption)) | (refine gs_n (by decide) ?_; first | assumption | exact gs_s (by assumption) | (refine gs_n (by decide) ?_; assumption)))) rfl rfl ?_
    refine am_B.run (hp := false) (sp := []) 200 rfl ?_
    refine am_B.callV (ci := 1) (n := 1) (as := [.int x]) rfl rfl rfl (ct_NT_appendTransition 0 _ T pc x gl gco hT h2 h3 h4) rfl rfl (by exact Nat.le_of_ble_eq_true rfl) rfl h2 rfl rfl (fun v h' z => ?_)
    obtain ⟨rfl, rfl⟩ := z
    refine am_B.run (hp := false) (sp := []) 200 rfl ?_
    exact am_B.iret rfl rfl rfl ⟨rfl, rfl⟩
  refine am_B.run (hp := false) (sp := []) 200 rfl ?_
  refine am_B.icmp_eq rfl rfl (fun z => J22) (fun z => ?_)
  obtain ⟨l, hl, rfl⟩ := hx.resolve_left z
  refine am_B.run (hp := false) (sp := []) 200 rfl ?_
  refine am_B.callS (n := 1) (as := [.int (nI l)]) rfl rfl rfl (ct_TA_isNoLabel 0 _ l hl) rfl rfl (by exact Nat.le_of_ble_eq_true rfl) rfl rfl rfl (fun v h' q => ?_)
  obtain ⟨rfl, rfl⟩ := q
  refine am_B.run (hp := false) (sp := []) 200 rfl ?_
  refine am_B.if_eq rfl rfl (fun _ => J22) (fun z => absurd rfl z)
set_option maxRecDepth 100000 in
set_option maxHeartbeats 4000000 in
theorem ct_TA_link (h : am_H) (t T p P b a : Nat) (nb nt : Int32) (g : Nat → Int32) (ht : t < T) (hT : T ≤ 10) (hp : p < P) (hP : P ≤ 8) (hb : (b = 0 ∧ a = 6) ∨ (b = 1 ∧ a = 5)) (h1 : h[1]? = some (c_TA nb nt)) (h2 : h[2]? = some (c_NT (nI P) (nI T))) (ha : h[a]? = some (ia 10 g)) (K : calm h)
    (hclr : (g t >>> (nI p &&& 31)) &&& nI 1 = 0) : am_Ct am_G0 m_TA_link 2 0 0 [.ref 1, .int (nI t), .int (nI p), .int (nI b), .int (nI 1)] h (fun v h' => v = some (.int (nI 0)) ∧ h' = h.set a (ia 10 (upd g t (g t ||| (nI 1 <<< (nI p &&& 31)))))) := by
  refine am_Ct.of (E := E_TA_link) e_TA_link (by decide) (Nat.le_of_ble_eq_true rfl) ?_
  have J35 : ∀ l5 l6 : Option Value, am_B E_TA_link (am_rm 2 0 0) (am_ZM E_TA_link 0 0 (fun v h' => v = some (.int (nI 0)) ∧ h' = h.set a (ia 10 (upd g t (g t ||| (nI 1 <<< (nI p &&& 31)))))))
      35 [some (.ref 1), some (.int (nI t)), some (.int (nI p)), some (.int (nI b)), some (.int (nI 1)), l5, l6] [.ref a] h 0 0 := by
    intro l5 l6
    refine am_B.run (hp := false) (sp := []) 200 rfl ?_
    refine am_B.ald rfl ha (vp_n (show t < 10 by omega) rfl) rfl ?_
    rw [nI_clamp (show t < 2 ^ 31 by omega)]
    refine am_B.run (hp := false) (sp := []) 200 rfl ?_
    refine am_B.callS (n := 2) (as := [.int (g t), .int (nI p)]) rfl rfl rfl (ct_TA_isIn 0 _ _ _) rfl rfl (by exact Nat.le_of_ble_eq_true rfl) rfl rfl rfl (fun v h' q => ?_)
    obtain ⟨rfl, rfl⟩ := q
    rw [if_pos hclr]
    refine am_B.run (hp := false) (sp := []) 200 rfl ?_
    refine am_B.if_eq rfl rfl (fun z => absurd z (by decide)) (fun _ => ?_)
    refine am_B.run (hp := false) (sp := []) 200 rfl ?_
    refine am_B.ald rfl ha (vp_n (show t < 10 by omega) rfl) rfl ?_
    rw [nI_clamp (show t < 2 ^ 31 by omega)]
    refine am_B.run (hp := false) (sp := []) 200 rfl ?_
    refine am_B.ast rfl ha (vp_n (show t < 10 by omega) rfl) rfl ?_
    rw [nI_clamp (show t < 2 ^ 31 by omega)]
    refine am_B.run (hp := false) (sp := []) 200 rfl ?_
    exact am_B.zret rfl rfl rfl rfl ⟨rfl, rfl⟩
  refine am_B.run (hp := false) (sp := []) 200 rfl ?_
  refine am_B.callV (ci := 0) (n := 1) (as := [.int (nI t)]) rfl rfl rfl (ct_TA_requireTransition 0 h t T nb nt (nI P) ht (by omega) h1 h2) rfl rfl (by exact Nat.le_of_ble_eq_true rfl) rfl h1 rfl rfl (fun v h' z => ?_)
  obtain ⟨rfl, rfl⟩ := z
  refine am_B.run (hp := false) (sp := []) 200 rfl ?_
  refine am_B.callV (ci := 0) (n := 1) (as := [.int (nI p)]) rfl rfl rfl (ct_TA_requirePlace 0 _ p P nb nt (nI T) hp (by omega) h1 h2) rfl rfl (by exact Nat.le_of_ble_eq_true rfl) rfl h1 rfl rfl (fun v h' z => ?_)
  obtain ⟨rfl, rfl⟩ := z
  refine am_B.run (hp := false) (sp := []) 200 rfl ?_
  refine am_B.callV (ci := 0) (n := 0) (as := []) rfl rfl rfl (ct_TA_forgetMarkings _ nb nt h1 K) rfl rfl (by exact Nat.le_of_ble_eq_true rfl) rfl h1 rfl rfl (fun v h' z => ?_)
  obtain ⟨rfl, rfl⟩ := z
  refine am_B.run (hp := false) (sp := []) 200 rfl ?_
  rcases hb with ⟨rfl, rfl⟩ | ⟨rfl, rfl⟩
  · refine am_B.if_eq rfl rfl (fun _ => ?_) (fun z => absurd rfl z)
    refine am_B.run (hp := false) (sp := []) 200 rfl ?_
    refine am_B.get rfl rfl rfl (by first | assumption | exact gs_s (by first | assumption | exact gs_s (by first | assumption | exact gs_s (by assumption) | (refine gs_n (by decide) ?_; assumption)) | (refine gs_n (by decide) ?_; first | assumption | exact gs_s (by assumption) | (refine gs_n (by decide) ?_; assumption))) | (refine gs_n (by decide) ?_; first | assumption | exact gs_s (by first | assumption | exact gs_s (by assumption) | (refine gs_n (by decide) ?_; assumption)) | (refine gs_n (by decide) ?_; first | assumption | exact gs_s (by assumption) | (refine gs_n (by decide) ?_; assumption)))) rfl rfl ?_
    refine am_B.run (hp := false) (sp := []) 200 rfl ?_
    refine am_B.get rfl rfl rfl h2 rfl rfl ?_
    exact J35 _ _
  · refine am_B.if_eq rfl rfl (fun z => absurd z (by decide)) (fun _ => ?_)
    refine am_B.run (hp := false) (sp := []) 200 rfl ?_
    refine am_B.get rfl rfl rfl (by first | assumption | exact gs_s (by first | assumption | exact gs_s (by first | assumption | exact gs_s (by assumption) | (refine gs_n (by decide) ?_; assumption)) | (refine gs_n (by decide) ?_; first | assumption | exact gs_s (by assumption) | (refine gs_n (by decide) ?_; assumption))) | (refine gs_n (by decide) ?_; first | assumption | exact gs_s (by first | assumption | exact gs_s (by assumption) | (refine gs_n (by decide) ?_; assumption)) | (refine gs_n (by decide) ?_; first | assumption | exact gs_s (by assumption) | (refine gs_n (by decide) ?_; assumption)))) rfl rfl ?_
    refine am_B.run (hp := false) (sp := []) 200 rfl ?_
    refine am_B.get rfl rfl rfl h2 rfl rfl ?_
    refine am_B.run (hp := false) (sp := [35]) 200 rfl ?_
    exact J35 _ _
set_option maxRecDepth 100000 in
set_option maxHeartbeats 4000000 in
theorem ct_TA_setTokens (h : am_H) (p P b a x : Nat) (nb nt tc : Int32) (g : Nat → Int32) (hp : p < P) (hP : P ≤ 8) (hx : x ≤ 3) (hb : (b = 0 ∧ a = 7) ∨ (b = 1 ∧ a = 8)) (h1 : h[1]? = some (c_TA nb nt)) (h2 : h[2]? = some (c_NT (nI P) tc)) (ha : h[a]? = some (ia 8 g)) (K : calm h) :
    am_Ct am_G0 m_TA_setTokens 2 0 0 [.ref 1, .int (nI p), .int (nI x), .int (nI b)] h (fun v h' => v = some (.int (g p)) ∧ h' = h.set a (ia 8 (upd g p (nI x)))) := by
  refine am_Ct.of (E := E_TA_setTokens) e_TA_setTokens (by decide) (Nat.le_of_ble_eq_true rfl) ?_
  have J49 : ∀ l4 l5 : Option Value, am_B E_TA_setTokens (am_rm 2 0 0) (am_ZM E_TA_setTokens 0 0 (fun v h' => v = some (.int (g p)) ∧ h' = h.set a (ia 8 (upd g p (nI x)))))
      49 [some (.ref 1), some (.int (nI p)), some (.int (nI x)), some (.int (nI b)), l4, l5] [.ref a] h 0 0 := by
    intro l4 l5
    refine am_B.run (hp := false) (sp := []) 200 rfl ?_
    refine am_B.ald rfl ha (vp_n (show p < 8 by omega) rfl) rfl ?_
    rw [nI_clamp (show p < 2 ^ 31 by omega)]
    refine am_B.run (hp := false) (sp := []) 200 rfl ?_
    refine am_B.ast rfl ha (vp_n (show p < 8 by omega) rfl) rfl ?_
    rw [nI_clamp (show p < 2 ^ 31 by omega)]
    refine am_B.run (hp := false) (sp := []) 200 rfl ?_
    exact am_B.iret rfl rfl rfl ⟨rfl, rfl⟩
  refine am_B.run (hp := false) (sp := []) 200 rfl ?_
  refine am_B.callV (ci := 0) (n := 1) (as := [.int (nI p)]) rfl rfl rfl (ct_TA_requirePlace 0 _ p P nb nt tc hp (by omega) h1 h2) rfl rfl (by exact Nat.le_of_ble_eq_true rfl) rfl h1 rfl rfl (fun v h' z => ?_)
  obtain ⟨rfl, rfl⟩ := z
  refine am_B.run (hp := false) (sp := []) 200 rfl ?_
  refine am_B.if_lt rfl rfl (fun z => absurd z (nI_nlt (Nat.zero_le x) (by omega))) (fun _ => ?_)
  refine am_B.run (hp := false) (sp := []) 200 rfl ?_
  refine am_B.icmp_le rfl rfl (fun _ => ?_) (fun z => absurd (nI_le hx (by decide)) z)
  refine am_B.run (hp := false) (sp := []) 200 rfl ?_
  refine am_B.callV (ci := 0) (n := 0) (as := []) rfl rfl rfl (ct_TA_forgetMarkings _ nb nt h1 K) rfl rfl (by exact Nat.le_of_ble_eq_true rfl) rfl h1 rfl rfl (fun v h' z => ?_)
  obtain ⟨rfl, rfl⟩ := z
  refine am_B.run (hp := false) (sp := []) 200 rfl ?_
  rcases hb with ⟨rfl, rfl⟩ | ⟨rfl, rfl⟩
  · refine am_B.if_eq rfl rfl (fun _ => ?_) (fun z => absurd rfl z)
    refine am_B.run (hp := false) (sp := []) 200 rfl ?_
    refine am_B.get rfl rfl rfl (by first | assumption | exact gs_s (by first | assumption | exact gs_s (by first | assumption | exact gs_s (by assumption) | (refine gs_n (by decide) ?_; assumption)) | (refine gs_n (by decide) ?_; first | assumption | exact gs_s (by assumption) | (refine gs_n (by decide) ?_; assumption))) | (refine gs_n (by decide) ?_; first | assumption | exact gs_s (by first | assumption | exact gs_s (by assumption) | (refine gs_n (by decide) ?_; assumption)) | (refine gs_n (by decide) ?_; first | assumption | exact gs_s (by assumption) | (refine gs_n (by decide) ?_; assumption)))) rfl rfl ?_
    refine am_B.run (hp := false) (sp := []) 200 rfl ?_
    refine am_B.get rfl rfl rfl h2 rfl rfl ?_
    exact J49 _ _
  · refine am_B.if_eq rfl rfl (fun z => absurd z (by decide)) (fun _ => ?_)
    refine am_B.run (hp := false) (sp := []) 200 rfl ?_
    refine am_B.get rfl rfl rfl (by first | assumption | exact gs_s (by first | assumption | exact gs_s (by first | assumption | exact gs_s (by assumption) | (refine gs_n (by decide) ?_; assumption)) | (refine gs_n (by decide) ?_; first | assumption | exact gs_s (by assumption) | (refine gs_n (by decide) ?_; assumption))) | (refine gs_n (by decide) ?_; first | assumption | exact gs_s (by first | assumption | exact gs_s (by assumption) | (refine gs_n (by decide) ?_; assumption)) | (refine gs_n (by decide) ?_; first | assumption | exact gs_s (by assumption) | (refine gs_n (by decide) ?_; assumption)))) rfl rfl ?_
    refine am_B.run (hp := false) (sp := []) 200 rfl ?_
    refine am_B.get rfl rfl rfl h2 rfl rfl ?_
    refine am_B.run (hp := false) (sp := [49]) 200 rfl ?_
    exact J49 _ _
set_option maxRecDepth 100000 in
set_option maxHeartbeats 4000000 in
theorem ct_TA_setCost (h : am_H) (t T c : Nat) (nb nt pc : Int32) (gco : Nat → Int32) (ht : t < T) (hT : T ≤ 10) (hc : c ≤ 9) (h1 : h[1]? = some (c_TA nb nt)) (h2 : h[2]? = some (c_NT pc (nI T))) (h4 : h[4]? = some (ia 10 gco)) (K : calm h) :
    am_Ct am_G0 m_TA_setCost 1 0 0 [.ref 1, .int (nI t), .int (nI c)] h (fun v h' => v = some (.int (gco t)) ∧ h' = h.set 4 (ia 10 (upd gco t (nI c)))) := by
  refine am_Ct.of (E := E_TA_setCost) e_TA_setCost (by decide) (Nat.le_of_ble_eq_true rfl) ?_
  refine am_B.run (hp := false) (sp := []) 200 rfl ?_
  refine am_B.callV (ci := 0) (n := 1) (as := [.int (nI t)]) rfl rfl rfl (ct_TA_requireTransition 0 h t T nb nt pc ht (by omega) h1 h2) rfl rfl (by exact Nat.le_of_ble_eq_true rfl) rfl h1 rfl rfl (fun v h' z => ?_)
  obtain ⟨rfl, rfl⟩ := z
  refine am_B.run (hp := false) (sp := []) 200 rfl ?_
  refine am_B.callS (n := 1) (as := [.int (nI c)]) rfl rfl rfl (ct_TA_requireCost 0 _ c hc) rfl rfl (by exact Nat.le_of_ble_eq_true rfl) rfl rfl rfl (fun v h' q => ?_)
  obtain ⟨rfl, rfl⟩ := q
  refine am_B.run (hp := false) (sp := []) 200 rfl ?_
  refine am_B.callV (ci := 0) (n := 0) (as := []) rfl rfl rfl (ct_TA_forgetAlignments 0 _ nb nt h1 K) rfl rfl (by exact Nat.le_of_ble_eq_true rfl) rfl h1 rfl rfl (fun v h' z => ?_)
  obtain ⟨rfl, rfl⟩ := z
  refine am_B.run (hp := false) (sp := []) 200 rfl ?_
  refine am_B.get rfl rfl rfl (by first | assumption | exact gs_s (by first | assumption | exact gs_s (by first | assumption | exact gs_s (by assumption) | (refine gs_n (by decide) ?_; assumption)) | (refine gs_n (by decide) ?_; first | assumption | exact gs_s (by assumption) | (refine gs_n (by decide) ?_; assumption))) | (refine gs_n (by decide) ?_; first | assumption | exact gs_s (by first | assumption | exact gs_s (by assumption) | (refine gs_n (by decide) ?_; assumption)) | (refine gs_n (by decide) ?_; first | assumption | exact gs_s (by assumption) | (refine gs_n (by decide) ?_; assumption)))) rfl rfl ?_
  refine am_B.run (hp := false) (sp := []) 200 rfl ?_
  refine am_B.get rfl rfl rfl (by first | assumption | exact gs_s (by first | assumption | exact gs_s (by first | assumption | exact gs_s (by assumption) | (refine gs_n (by decide) ?_; assumption)) | (refine gs_n (by decide) ?_; first | assumption | exact gs_s (by assumption) | (refine gs_n (by decide) ?_; assumption))) | (refine gs_n (by decide) ?_; first | assumption | exact gs_s (by first | assumption | exact gs_s (by assumption) | (refine gs_n (by decide) ?_; assumption)) | (refine gs_n (by decide) ?_; first | assumption | exact gs_s (by assumption) | (refine gs_n (by decide) ?_; assumption)))) rfl rfl ?_
  refine am_B.run (hp := false) (sp := []) 200 rfl ?_
  refine am_B.ald rfl h4 (vp_n (show t < 10 by omega) rfl) rfl ?_
  rw [nI_clamp (show t < 2 ^ 31 by omega)]
  refine am_B.run (hp := false) (sp := []) 200 rfl ?_
  refine am_B.get rfl rfl rfl (by first | assumption | exact gs_s (by first | assumption | exact gs_s (by first | assumption | exact gs_s (by assumption) | (refine gs_n (by decide) ?_; assumption)) | (refine gs_n (by decide) ?_; first | assumption | exact gs_s (by assumption) | (refine gs_n (by decide) ?_; assumption))) | (refine gs_n (by decide) ?_; first | assumption | exact gs_s (by first | assumption | exact gs_s (by assumption) | (refine gs_n (by decide) ?_; assumption)) | (refine gs_n (by decide) ?_; first | assumption | exact gs_s (by assumption) | (refine gs_n (by decide) ?_; assumption)))) rfl rfl ?_
  refine am_B.run (hp := false) (sp := []) 200 rfl ?_
  refine am_B.get rfl rfl rfl (by first | assumption | exact gs_s (by first | assumption | exact gs_s (by first | assumption | exact gs_s (by assumption) | (refine gs_n (by decide) ?_; assumption)) | (refine gs_n (by decide) ?_; first | assumption | exact gs_s (by assumption) | (refine gs_n (by decide) ?_; assumption))) | (refine gs_n (by decide) ?_; first | assumption | exact gs_s (by first | assumption | exact gs_s (by assumption) | (refine gs_n (by decide) ?_; assumption)) | (refine gs_n (by decide) ?_; first | assumption | exact gs_s (by assumption) | (refine gs_n (by decide) ?_; assumption)))) rfl rfl ?_
  refine am_B.run (hp := false) (sp := []) 200 rfl ?_
  refine am_B.ast rfl h4 (vp_n (show t < 10 by omega) rfl) rfl ?_
  rw [nI_clamp (show t < 2 ^ 31 by omega)]
  refine am_B.run (hp := false) (sp := []) 200 rfl ?_
  exact am_B.iret rfl rfl rfl ⟨rfl, rfl⟩
set_option maxRecDepth 100000 in
theorem de_count : decode m_TA_count.2.1 1 = .ok (.tableswitch 48 0 2 #[27, 35, 43], 27) := by decide +kernel
set_option maxRecDepth 100000 in
set_option maxHeartbeats 4000000 in
theorem ct_TA_count (f : Nat) (h : am_H) (k : Nat) (nb nt pc tc : Int32) (hk : k < 3) (h1 : h[1]? = some (c_TA nb nt)) (h2 : h[2]? = some (c_NT pc tc)) : am_Ct am_G0 m_TA_count f 0 0 [.ref 1, .int (nI k)] h (fun v h' => h' = h ∧ v = some (.int (if k = 0 then pc else if k = 1 then tc else nt))) := by
  have hd := de_count
  refine am_Ct.of (E := E_TA_count) e_TA_count (by decide) (Nat.le_of_ble_eq_true rfl) ?_
  refine am_B.run (hp := false) (sp := [1]) 200 rfl ?_
  obtain rfl | rfl | rfl : k = 0 ∨ k = 1 ∨ k = 2 := by omega
  · refine am_B.tswIn (tgt := 28) hd (by decide) (by decide) rfl rfl ?_
    refine am_B.run (hp := false) (sp := []) 200 rfl ?_
    refine am_B.get rfl rfl rfl (by first | assumption | exact gs_s (by first | assumption | exact gs_s (by first | assumption | exact gs_s (by assumption) | (refine gs_n (by decide) ?_; assumption)) | (refine gs_n (by decide) ?_; first | assumption | exact gs_s (by assumption) | (refine gs_n (by decide) ?_; assumption))) | (refine gs_n (by decide) ?_; first | assumption | exact gs_s (by first | assumption | exact gs_s (by assumption) | (refine gs_n (by decide) ?_; assumption)) | (refine gs_n (by decide) ?_; first | assumption | exact gs_s (by assumption) | (refine gs_n (by decide) ?_; assumption)))) rfl rfl ?_
    refine am_B.run (hp := false) (sp := []) 200 rfl ?_
    refine am_B.get rfl rfl rfl (by first | assumption | exact gs_s (by first | assumption | exact gs_s (by first | assumption | exact gs_s (by assumption) | (refine gs_n (by decide) ?_; assumption)) | (refine gs_n (by decide) ?_; first | assumption | exact gs_s (by assumption) | (refine gs_n (by decide) ?_; assumption))) | (refine gs_n (by decide) ?_; first | assumption | exact gs_s (by first | assumption | exact gs_s (by assumption) | (refine gs_n (by decide) ?_; assumption)) | (refine gs_n (by decide) ?_; first | assumption | exact gs_s (by assumption) | (refine gs_n (by decide) ?_; assumption)))) rfl rfl ?_
    exact am_B.iret rfl rfl rfl ⟨rfl, rfl⟩
  · refine am_B.tswIn (tgt := 36) hd (by decide) (by decide) rfl rfl ?_
    refine am_B.run (hp := false) (sp := []) 200 rfl ?_
    refine am_B.get rfl rfl rfl (by first | assumption | exact gs_s (by first | assumption | exact gs_s (by first | assumption | exact gs_s (by assumption) | (refine gs_n (by decide) ?_; assumption)) | (refine gs_n (by decide) ?_; first | assumption | exact gs_s (by assumption) | (refine gs_n (by decide) ?_; assumption))) | (refine gs_n (by decide) ?_; first | assumption | exact gs_s (by first | assumption | exact gs_s (by assumption) | (refine gs_n (by decide) ?_; assumption)) | (refine gs_n (by decide) ?_; first | assumption | exact gs_s (by assumption) | (refine gs_n (by decide) ?_; assumption)))) rfl rfl ?_
    refine am_B.run (hp := false) (sp := []) 200 rfl ?_
    refine am_B.get rfl rfl rfl (by first | assumption | exact gs_s (by first | assumption | exact gs_s (by first | assumption | exact gs_s (by assumption) | (refine gs_n (by decide) ?_; assumption)) | (refine gs_n (by decide) ?_; first | assumption | exact gs_s (by assumption) | (refine gs_n (by decide) ?_; assumption))) | (refine gs_n (by decide) ?_; first | assumption | exact gs_s (by first | assumption | exact gs_s (by assumption) | (refine gs_n (by decide) ?_; assumption)) | (refine gs_n (by decide) ?_; first | assumption | exact gs_s (by assumption) | (refine gs_n (by decide) ?_; assumption)))) rfl rfl ?_
    exact am_B.iret rfl rfl rfl ⟨rfl, rfl⟩
  · refine am_B.tswIn (tgt := 44) hd (by decide) (by decide) rfl rfl ?_
    refine am_B.run (hp := false) (sp := []) 200 rfl ?_
    refine am_B.get rfl rfl rfl (by first | assumption | exact gs_s (by first | assumption | exact gs_s (by first | assumption | exact gs_s (by assumption) | (refine gs_n (by decide) ?_; assumption)) | (refine gs_n (by decide) ?_; first | assumption | exact gs_s (by assumption) | (refine gs_n (by decide) ?_; assumption))) | (refine gs_n (by decide) ?_; first | assumption | exact gs_s (by first | assumption | exact gs_s (by assumption) | (refine gs_n (by decide) ?_; assumption)) | (refine gs_n (by decide) ?_; first | assumption | exact gs_s (by assumption) | (refine gs_n (by decide) ?_; assumption)))) rfl rfl ?_
    exact am_B.iret rfl rfl rfl ⟨rfl, rfl⟩
