/-! A FRESH ALIGNER: what throws -/
section XRULES2
variable {E : am_E} {R : Room} {Z : am_Z} {pc : Nat} {lo lo' : am_L} {st rest : List Value} {h : am_H} {rc rs : Nat} {r : am_Row} {DC DS F : Nat} {Qb : Option Value → am_H → Prop} {Xb : String → am_H → Prop} {hh : List (Nat × Nat × Nat × Nat)}
/-- a static method that may throw; what it throws goes on to the caller -/
theorem am_B.callSX {i ci n f dc ds : Nat} {M : am_M} {as : List Value} {Qa : Option Value → am_H → Prop} {Xa : String → am_H → Prop} (hf : am_find E.2.2.2 pc = some r) (hi : r.2.1 = .invokestatic i) (hm : am_mfind E.2.1.2.2 i = some (i, 1, ci, n, M)) (hc : am_CtX E.1 M f dc ds as h Qa Xa)
    (hst : st = as.reverse ++ rest) (hn : as.length = n) (hw : am_wd rest ≤ 8) (hfit : am_fits (am_rm F DC DS) f M.2.2.1 = true) {rc0 rs0 : Nat} (hrc : rc + dc = rc0) (hrs : rs + ds = rs0) (k : ∀ v h', Qa v h' → am_B E (am_rm F DC DS) (am_ZX E DC DS Qb Xb) (pc + 3) lo (v.toList ++ rest) h' rc rs) (kx : ∀ En h', Xa En h' → Xb En h') :
    am_B E (am_rm F DC DS) (am_ZX E DC DS Qb Xb) pc lo st h rc0 rs0 := by
  subst hrc; subst hrs
  intro ok l D cA sb base p e s m args below meth c C H locs cells slots ls hR hS h1 h2 hl
  by_cases hP : am_P [] l c base s
  rotate_left
  · intro T hT X
    exact ⟨_, Steps.refl _, fun z => absurd z hP⟩
  obtain ⟨hm0, rfl⟩ := am_find_ok hf
  obtain ⟨hd, -, -⟩ := ok.2.2 r hm0
  obtain ⟨hq, -⟩ := am_mfind_ok hm
  obtain ⟨hcode, hdes, hini, hlink, hstt⟩ := ok.2.1.2.2 _ hq
  dsimp only at hcode hdes hini hlink hstt
  have C0 := C
  obtain ⟨hx, hb, hml, hret, hown, hts, hK, hlk, hnm⟩ := C
  rw [hi] at hd
  subst hst
  have hfr := am_fits_ok hfit
  have r1 : cells + (rc + dc) ≤ DC := h1
  have r2 : slots + (rs + ds) ≤ DS := h2
  refine am_backX (vx_runS (As := as.map (am_cv sb base)) (rest := rest.map (am_cv sb base)) ⟨hx, hb, hml, hown, hts⟩ (hc l hP.1 D cA sb base)
    ⟨callB_of n hts (am_good ok.1 hcode) rfl rfl rfl (hts _ hini) (hts _ hlink) hdes hfr, hts _ hstt⟩
    ⟨am_blindV, fun U hU hW => ⟨rfl, ⟨by rw [hU]; exact hR.moved hW.alike, hK.moved hW⟩, am_V.moved hW (fun a q1 q2 => by rw [hU]; exact hS.2.1 a q1 q2) hP.2.2⟩⟩ rfl (by rw [List.length_map]; exact hn) hl.2.1 (by simp) ?_ hd ⟨by show cells + dc ≤ DC; omega, by show slots + ds ≤ DS; omega⟩) hS
    (fun v h' H1 locs1 hQ hR1 hS1 => k v h' hQ ok l D cA sb base p e s m args below meth c C0 H1 locs1 (cells + dc) (slots + ds) ls hR1 hS1 (by show cells + dc + rc ≤ DC; omega) (by show slots + ds + rs ≤ DS; omega) hl) ?_
  · show 2 * 0 + _ ≤ 8
    rw [am_wd_cv]
    omega
  · intro En ce q9 h' H1 locs1 hXa hR1 hS1 hce hcv hcl9 T hT X
    obtain ⟨t, a1, b1⟩ := vx_out (E := En) (mc := DC) (ms := DS) (free := fun q => base ≤ q) (Qc := am_Qc D E.1.1 cA sb base Qb) (XC := am_XC D E.1.1 cA sb base Xb) (fun x hx9 => by rw [hP.2.1] at hx9; cases hx9) hlk hce hcv hcl9
      (fun t ht hal => ⟨⟨h', kx En h' hXa, by rw [ht]; exact hR1.moved hal⟩, hS1.F ht⟩) hS1.2.2 (by omega) (by omega) T hT X
    exact ⟨t, a1, fun _ => b1⟩
end XRULES2
def xbad (x : Int32) (n : Nat) : Prop := x < 0 ∨ ∃ j, n ≤ j ∧ j < 2 ^ 31 ∧ x = nI j
theorem xbad_or (x : Int32) (n : Nat) : xbad x n ∨ ∃ j, j < n ∧ x = nI j := by
  by_cases h : x < 0
  · exact Or.inl (Or.inl h)
  · obtain ⟨j, h1, h2⟩ := nI_of h
    rcases Nat.lt_or_ge j n with q | q
    · exact Or.inr ⟨j, q, h2⟩
    · exact Or.inl (Or.inr ⟨j, q, h1, h2⟩)
theorem xbad_0 (x : Int32) : xbad x 0 := (xbad_or x 0).resolve_right fun ⟨j, q, _⟩ => absurd q (by omega)
set_option maxRecDepth 100000 in
set_option maxHeartbeats 4000000 in
theorem xt_requireTransition (h : am_H) (x : Int32) (n : Nat) (hx : xbad x n) {nb nt pc : Int32} (h1 : h[1]? = some (c_TA nb nt)) (h2 : h[2]? = some (c_NT pc (nI n))) : am_CtX am_G0 m_TA_requireTransition 6 1 6 [.ref 1, .int x] h (fun _ _ => False) (xo "java/lang/IndexOutOfBoundsException" h) := by
  refine am_CtX.of (E := E_TA_requireTransition) e_TA_requireTransition (by decide) (Nat.le_of_ble_eq_true rfl) ?_
  have J : am_B E_TA_requireTransition (am_rm 6 1 6) (am_ZX E_TA_requireTransition 1 6 (fun _ _ => False) (xo "java/lang/IndexOutOfBoundsException" h)) 15 [some (.ref 1), some (.int x)] [] h 1 6 := by
    exact am_B.thrW (rc := 0) (rs := 0) (cls := "java/lang/IndexOutOfBoundsException") (names := x_nm) rfl rfl rfl rfl rfl rfl rfl rfl rfl rfl x_fO x_fn x_wO (List.mem_of_getElem? (i := 3) rfl) (by decide) (by decide) (fun d => ⟨rfl, d, rfl⟩)
  refine am_B.run (hp := false) (sp := []) 200 rfl ?_
  rcases hx with hx | ⟨j, q1, q2, rfl⟩
  · exact am_B.if_lt rfl rfl (fun _ => J) (fun z => absurd hx z)
  · refine am_B.if_lt rfl rfl (fun z => absurd z (nI_nlt (Nat.zero_le _) q2)) (fun _ => ?_)
    refine am_B.run (hp := false) (sp := []) 200 rfl ?_
    refine am_B.get rfl rfl rfl (by first | assumption | exact gs_s (by first | assumption | exact gs_s (by first | assumption | exact gs_s (by assumption) | (refine gs_n (by decide) ?_; assumption)) | (refine gs_n (by decide) ?_; first | assumption | exact gs_s (by assumption) | (refine gs_n (by decide) ?_; assumption))) | (refine gs_n (by decide) ?_; first | assumption | exact gs_s (by first | assumption | exact gs_s (by assumption) | (refine gs_n (by decide) ?_; assumption)) | (refine gs_n (by decide) ?_; first | assumption | exact gs_s (by assumption) | (refine gs_n (by decide) ?_; assumption)))) rfl rfl ?_
    refine am_B.get rfl rfl rfl (by first | assumption | exact gs_s (by first | assumption | exact gs_s (by first | assumption | exact gs_s (by assumption) | (refine gs_n (by decide) ?_; assumption)) | (refine gs_n (by decide) ?_; first | assumption | exact gs_s (by assumption) | (refine gs_n (by decide) ?_; assumption))) | (refine gs_n (by decide) ?_; first | assumption | exact gs_s (by first | assumption | exact gs_s (by assumption) | (refine gs_n (by decide) ?_; assumption)) | (refine gs_n (by decide) ?_; first | assumption | exact gs_s (by assumption) | (refine gs_n (by decide) ?_; assumption)))) rfl rfl ?_
    refine am_B.icmp_lt rfl rfl (fun z => absurd z (nI_nlt q1 q2)) (fun _ => J)
set_option maxRecDepth 100000 in
set_option maxHeartbeats 4000000 in
theorem xt_requirePlace (h : am_H) (x : Int32) (n : Nat) (hx : xbad x n) {nb nt tc : Int32} (h1 : h[1]? = some (c_TA nb nt)) (h2 : h[2]? = some (c_NT (nI n) tc)) : am_CtX am_G0 m_TA_requirePlace 6 1 6 [.ref 1, .int x] h (fun _ _ => False) (xo "java/lang/IndexOutOfBoundsException" h) := by
  refine am_CtX.of (E := E_TA_requirePlace) e_TA_requirePlace (by decide) (Nat.le_of_ble_eq_true rfl) ?_
  have J : am_B E_TA_requirePlace (am_rm 6 1 6) (am_ZX E_TA_requirePlace 1 6 (fun _ _ => False) (xo "java/lang/IndexOutOfBoundsException" h)) 15 [some (.ref 1), some (.int x)] [] h 1 6 := by
    exact am_B.thrW (rc := 0) (rs := 0) (cls := "java/lang/IndexOutOfBoundsException") (names := x_nm) rfl rfl rfl rfl rfl rfl rfl rfl rfl rfl x_fO x_fn x_wO (List.mem_of_getElem? (i := 4) rfl) (by decide) (by decide) (fun d => ⟨rfl, d, rfl⟩)
  refine am_B.run (hp := false) (sp := []) 200 rfl ?_
  rcases hx with hx | ⟨j, q1, q2, rfl⟩
  · exact am_B.if_lt rfl rfl (fun _ => J) (fun z => absurd hx z)
  · refine am_B.if_lt rfl rfl (fun z => absurd z (nI_nlt (Nat.zero_le _) q2)) (fun _ => ?_)
    refine am_B.run (hp := false) (sp := []) 200 rfl ?_
    refine am_B.get rfl rfl rfl (by first | assumption | exact gs_s (by first | assumption | exact gs_s (by first | assumption | exact gs_s (by assumption) | (refine gs_n (by decide) ?_; assumption)) | (refine gs_n (by decide) ?_; first | assumption | exact gs_s (by assumption) | (refine gs_n (by decide) ?_; assumption))) | (refine gs_n (by decide) ?_; first | assumption | exact gs_s (by first | assumption | exact gs_s (by assumption) | (refine gs_n (by decide) ?_; assumption)) | (refine gs_n (by decide) ?_; first | assumption | exact gs_s (by assumption) | (refine gs_n (by decide) ?_; assumption)))) rfl rfl ?_
    refine am_B.get rfl rfl rfl (by first | assumption | exact gs_s (by first | assumption | exact gs_s (by first | assumption | exact gs_s (by assumption) | (refine gs_n (by decide) ?_; assumption)) | (refine gs_n (by decide) ?_; first | assumption | exact gs_s (by assumption) | (refine gs_n (by decide) ?_; assumption))) | (refine gs_n (by decide) ?_; first | assumption | exact gs_s (by first | assumption | exact gs_s (by assumption) | (refine gs_n (by decide) ?_; assumption)) | (refine gs_n (by decide) ?_; first | assumption | exact gs_s (by assumption) | (refine gs_n (by decide) ?_; assumption)))) rfl rfl ?_
    refine am_B.icmp_lt rfl rfl (fun z => absurd z (nI_nlt q1 q2)) (fun _ => J)
set_option maxRecDepth 100000 in
set_option maxHeartbeats 4000000 in
theorem xt_requireMarking (h : am_H) (x : Int32) (n : Nat) (hx : xbad x n) {nb nt ex la : Int32} (h1 : h[1]? = some (c_TA nb nt)) (h9 : h[9]? = some (c_MG ex (nI n) la)) : am_CtX am_G0 m_TA_requireMarking 6 1 6 [.ref 1, .int x] h (fun _ _ => False) (xo "java/lang/IndexOutOfBoundsException" h) := by
  refine am_CtX.of (E := E_TA_requireMarking) e_TA_requireMarking (by decide) (Nat.le_of_ble_eq_true rfl) ?_
  have J : am_B E_TA_requireMarking (am_rm 6 1 6) (am_ZX E_TA_requireMarking 1 6 (fun _ _ => False) (xo "java/lang/IndexOutOfBoundsException" h)) 15 [some (.ref 1), some (.int x)] [] h 1 6 := by
    exact am_B.thrW (rc := 0) (rs := 0) (cls := "java/lang/IndexOutOfBoundsException") (names := x_nm) rfl rfl rfl rfl rfl rfl rfl rfl rfl rfl x_fO x_fn x_wO (List.mem_of_getElem? (i := 8) rfl) (by decide) (by decide) (fun d => ⟨rfl, d, rfl⟩)
  refine am_B.run (hp := false) (sp := []) 200 rfl ?_
  rcases hx with hx | ⟨j, q1, q2, rfl⟩
  · exact am_B.if_lt rfl rfl (fun _ => J) (fun z => absurd hx z)
  · refine am_B.if_lt rfl rfl (fun z => absurd z (nI_nlt (Nat.zero_le _) q2)) (fun _ => ?_)
    refine am_B.run (hp := false) (sp := []) 200 rfl ?_
    refine am_B.get rfl rfl rfl (by first | assumption | exact gs_s (by first | assumption | exact gs_s (by first | assumption | exact gs_s (by assumption) | (refine gs_n (by decide) ?_; assumption)) | (refine gs_n (by decide) ?_; first | assumption | exact gs_s (by assumption) | (refine gs_n (by decide) ?_; assumption))) | (refine gs_n (by decide) ?_; first | assumption | exact gs_s (by first | assumption | exact gs_s (by assumption) | (refine gs_n (by decide) ?_; assumption)) | (refine gs_n (by decide) ?_; first | assumption | exact gs_s (by assumption) | (refine gs_n (by decide) ?_; assumption)))) rfl rfl ?_
    refine am_B.get rfl rfl rfl (by first | assumption | exact gs_s (by first | assumption | exact gs_s (by first | assumption | exact gs_s (by assumption) | (refine gs_n (by decide) ?_; assumption)) | (refine gs_n (by decide) ?_; first | assumption | exact gs_s (by assumption) | (refine gs_n (by decide) ?_; assumption))) | (refine gs_n (by decide) ?_; first | assumption | exact gs_s (by first | assumption | exact gs_s (by assumption) | (refine gs_n (by decide) ?_; assumption)) | (refine gs_n (by decide) ?_; first | assumption | exact gs_s (by assumption) | (refine gs_n (by decide) ?_; assumption)))) rfl rfl ?_
    refine am_B.icmp_lt rfl rfl (fun z => absurd z (nI_nlt q1 q2)) (fun _ => J)
set_option maxRecDepth 100000 in
set_option maxHeartbeats 4000000 in
theorem xt_requireTrace (h : am_H) (x : Int32) (n : Nat) (hx : xbad x n) {nb : Int32} (h1 : h[1]? = some (c_TA nb (nI n))) : am_CtX am_G0 m_TA_requireTrace 6 1 6 [.ref 1, .int x] h (fun _ _ => False) (xo "java/lang/IndexOutOfBoundsException" h) := by
  refine am_CtX.of (E := E_TA_requireTrace) e_TA_requireTrace (by decide) (Nat.le_of_ble_eq_true rfl) ?_
  have J : am_B E_TA_requireTrace (am_rm 6 1 6) (am_ZX E_TA_requireTrace 1 6 (fun _ _ => False) (xo "java/lang/IndexOutOfBoundsException" h)) 12 [some (.ref 1), some (.int x)] [] h 1 6 := by
    exact am_B.thrW (rc := 0) (rs := 0) (cls := "java/lang/IndexOutOfBoundsException") (names := x_nm) rfl rfl rfl rfl rfl rfl rfl rfl rfl rfl x_fO x_fn x_wO (List.mem_of_getElem? (i := 14) rfl) (by decide) (by decide) (fun d => ⟨rfl, d, rfl⟩)
  refine am_B.run (hp := false) (sp := []) 200 rfl ?_
  rcases hx with hx | ⟨j, q1, q2, rfl⟩
  · exact am_B.if_lt rfl rfl (fun _ => J) (fun z => absurd hx z)
  · refine am_B.if_lt rfl rfl (fun z => absurd z (nI_nlt (Nat.zero_le _) q2)) (fun _ => ?_)
    refine am_B.run (hp := false) (sp := []) 200 rfl ?_
    refine am_B.get rfl rfl rfl (by first | assumption | exact gs_s (by first | assumption | exact gs_s (by first | assumption | exact gs_s (by assumption) | (refine gs_n (by decide) ?_; assumption)) | (refine gs_n (by decide) ?_; first | assumption | exact gs_s (by assumption) | (refine gs_n (by decide) ?_; assumption))) | (refine gs_n (by decide) ?_; first | assumption | exact gs_s (by first | assumption | exact gs_s (by assumption) | (refine gs_n (by decide) ?_; assumption)) | (refine gs_n (by decide) ?_; first | assumption | exact gs_s (by assumption) | (refine gs_n (by decide) ?_; assumption)))) rfl rfl ?_
    refine am_B.icmp_lt rfl rfl (fun z => absurd z (nI_nlt q1 q2)) (fun _ => J)
set_option maxRecDepth 100000 in
set_option maxHeartbeats 4000000 in
theorem xt_requireCost (h : am_H) (x : Int32) (hx : xbad x 10) : am_CtX am_G0 m_TA_requireCost 6 1 6 [.int x] h (fun _ _ => False) (xo "java/lang/IllegalArgumentException" h) := by
  refine am_CtX.of (E := E_TA_requireCost) e_TA_requireCost (by decide) (Nat.le_of_ble_eq_true rfl) ?_
  have J : am_B E_TA_requireCost (am_rm 6 1 6) (am_ZX E_TA_requireCost 1 6 (fun _ _ => False) (xo "java/lang/IllegalArgumentException" h)) 10 [some (.int x)] [] h 1 6 := by
    exact am_B.thrW (rc := 0) (rs := 0) (cls := "java/lang/IllegalArgumentException") (names := x_nm) rfl rfl rfl rfl rfl rfl rfl rfl rfl rfl x_fA x_fn x_wA (List.mem_of_getElem? (i := 16) rfl) (by decide) (by decide) (fun d => ⟨rfl, d, rfl⟩)
  refine am_B.run (hp := false) (sp := []) 200 rfl ?_
  rcases hx with hx | ⟨j, q1, q2, rfl⟩
  · exact am_B.if_lt rfl rfl (fun _ => J) (fun z => absurd hx z)
  · refine am_B.if_lt rfl rfl (fun z => absurd z (nI_nlt (Nat.zero_le _) q2)) (fun _ => ?_)
    refine am_B.run (hp := false) (sp := []) 200 rfl ?_
    refine am_B.icmp_le rfl rfl (fun z => absurd z ?_) (fun _ => J)
    exact fun z => absurd (Int32.not_lt.mpr z) (fun q => q (nI_lt (show 9 < j by omega) q2))
set_option maxRecDepth 100000 in
set_option maxHeartbeats 4000000 in
theorem xt_isNoLabel (f : Nat) (h : am_H) (x : Int32) (hx : xbad x 6) : am_Ct am_G0 m_TA_isNoLabel f 0 0 [.int x] h (fun v h' => v = some (.int (nI 1)) ∧ h' = h) := by
  refine am_Ct.of (E := E_TA_isNoLabel) e_TA_isNoLabel (by decide) (Nat.le_of_ble_eq_true rfl) ?_
  refine am_B.run (hp := false) (sp := []) 200 rfl ?_
  rcases hx with hx | ⟨j, q1, q2, rfl⟩
  · refine am_B.if_lt rfl rfl (fun _ => ?_) (fun z => absurd hx z)
    refine am_B.run (hp := false) (sp := []) 200 rfl ?_
    exact am_B.zret rfl rfl rfl rfl ⟨rfl, rfl⟩
  · refine am_B.if_lt rfl rfl (fun z => absurd z (nI_nlt (Nat.zero_le _) q2)) (fun _ => ?_)
    refine am_B.run (hp := false) (sp := []) 200 rfl ?_
    refine am_B.icmp_lt rfl rfl (fun z => absurd z (nI_nlt q1 q2)) (fun _ => ?_)
    refine am_B.run (hp := false) (sp := []) 200 rfl ?_
    exact am_B.zret rfl rfl rfl rfl ⟨rfl, rfl⟩
set_option maxRecDepth 100000 in
set_option maxHeartbeats 4000000 in
theorem xt_requireMarkings (h : am_H) (X : xF h) : am_Ct am_G0 m_TA_requireMarkings 2 0 0 [.ref 1] h (fun v h' => v = none ∧ h' = hE h) := by
  have h1 := X.2.1
  have h9 := X.2.2.2.2.2.2.2.1
  have hl : 12 < h.length := by have := X.1; omega
  refine am_Ct.of (E := E_TA_requireMarkings) e_TA_requireMarkings (by decide) (Nat.le_of_ble_eq_true rfl) ?_
  refine am_B.run (hp := false) (sp := []) 200 rfl ?_
  refine am_B.get rfl rfl rfl (by first | assumption | exact gs_s (by first | assumption | exact gs_s (by first | assumption | exact gs_s (by assumption) | (refine gs_n (by decide) ?_; assumption)) | (refine gs_n (by decide) ?_; first | assumption | exact gs_s (by assumption) | (refine gs_n (by decide) ?_; assumption))) | (refine gs_n (by decide) ?_; first | assumption | exact gs_s (by first | assumption | exact gs_s (by assumption) | (refine gs_n (by decide) ?_; assumption)) | (refine gs_n (by decide) ?_; first | assumption | exact gs_s (by assumption) | (refine gs_n (by decide) ?_; assumption)))) rfl rfl ?_
  refine am_B.callV (ci := 2) (n := 0) (as := []) rfl rfl rfl X.explore rfl rfl (by exact Nat.le_of_ble_eq_true rfl) rfl h9 rfl rfl (fun v h' z => ?_)
  obtain ⟨rfl, rfl⟩ := z
  have e1 : (hE h)[1]? = some (c_TA (nI 0) (nI 0)) := (n4_o (by decide) (by decide) (by decide) (by decide)).trans h1
  have e9 : (hE h)[9]? = some (c_MG (nI 1) (nI 1) (nI 0)) := n4_9 hl
  refine am_B.run (hp := false) (sp := []) 200 rfl ?_
  refine am_B.get rfl rfl rfl (by first | assumption | exact gs_s (by first | assumption | exact gs_s (by first | assumption | exact gs_s (by assumption) | (refine gs_n (by decide) ?_; assumption)) | (refine gs_n (by decide) ?_; first | assumption | exact gs_s (by assumption) | (refine gs_n (by decide) ?_; assumption))) | (refine gs_n (by decide) ?_; first | assumption | exact gs_s (by first | assumption | exact gs_s (by assumption) | (refine gs_n (by decide) ?_; assumption)) | (refine gs_n (by decide) ?_; first | assumption | exact gs_s (by assumption) | (refine gs_n (by decide) ?_; assumption)))) rfl rfl ?_
  refine am_B.get rfl rfl rfl (by first | assumption | exact gs_s (by first | assumption | exact gs_s (by first | assumption | exact gs_s (by assumption) | (refine gs_n (by decide) ?_; assumption)) | (refine gs_n (by decide) ?_; first | assumption | exact gs_s (by assumption) | (refine gs_n (by decide) ?_; assumption))) | (refine gs_n (by decide) ?_; first | assumption | exact gs_s (by first | assumption | exact gs_s (by assumption) | (refine gs_n (by decide) ?_; assumption)) | (refine gs_n (by decide) ?_; first | assumption | exact gs_s (by assumption) | (refine gs_n (by decide) ?_; assumption)))) rfl rfl ?_
  refine am_B.run (hp := false) (sp := []) 200 rfl ?_
  refine am_B.icmp_ne rfl rfl (fun _ => ?_) (fun z => absurd z (by decide))
  exact am_B.vret rfl rfl rfl ⟨rfl, rfl⟩
theorem xF.e1 {h : am_H} (X : xF h) : (hE h)[1]? = some (c_TA (nI 0) (nI 0)) := (n4_o (by decide) (by decide) (by decide) (by decide)).trans X.2.1
theorem xF.e2 {h : am_H} (X : xF h) : (hE h)[2]? = some (c_NT (nI 0) (nI 0)) := (n4_o (by decide) (by decide) (by decide) (by decide)).trans X.2.2.1
theorem xF.e9 {h : am_H} (X : xF h) : (hE h)[9]? = some (c_MG (nI 1) (nI 1) (nI 0)) := n4_9 (by have := X.1; omega)
theorem xF.e11 {h : am_H} (X : xF h) : (hE h)[11]? = some (ia 200 (upd (fun _ => 0) 0 (nI 0))) := n4_11 (by have := X.1; omega)
