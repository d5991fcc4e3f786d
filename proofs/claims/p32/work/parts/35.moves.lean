/-! THE LAW READS AN ALIGNMENT, move by move -/
def lc0 (l : Nat) : Nat := if l < 6 then 1 else 0
/-- what the law's inner loop sees: trace k is aligned, nothing changes -/
def HL (h : am_H) (k many n T P l szk mcv lcv wcv pth P' : Nat) (tmv : Int32) (ge gf rws : Nat → Int32) (trc : Nat → Option Nat) (row g' : Nat → Int32) : Prop :=
  h[1]? = some (c_TA (nI 0) (nI many)) ∧ h[2]? = some (c_NT (nI P) (nI T)) ∧ h[9]? = some (c_MG (nI 1) (nI n) (nI l)) ∧ h[11]? = some (ia 200 ge) ∧ h[12]? = some (ia 2000 gf) ∧ h[14]? = some c_PF ∧ h[27]? = some (ra 4 8 ts_) ∧ h[54]? = some (ia 40 rws) ∧ h[55]? = some (ra 5 8 trc) ∧
  h[58 + k]? = some (ia szk row) ∧ h[28 + 3 * k]? = some (c_TR k (nI szk) tmv (nI 1) (nI lcv) (nI wcv) (nI mcv) pth) ∧ h[pth]? = some (ia P' g') ∧ trc k = some (58 + k)
section MOVES
variable {nm : String} {h : am_H} {k many n T P l szk mcv lcv wcv pth P' rc rs : Nat} {tmv : Int32} {ge gf rws row g' : Nat → Int32} {trc : Nat → Option Nat}
set_option maxRecDepth 100000 in
set_option maxHeartbeats 4000000 in
theorem lw_pre (H : HL h k many n T P l szk mcv lcv wcv pth P' tmv ge gf rws trc row g') (hk : k < many) (hm : many ≤ 3) (hn : n ≤ 200) (hP : P' ≤ 3600) (hmc : mcv ≤ P') {i kd t1 l1 mk : Nat} (hi : i < mcv) (hg : g' i = nI (mvN kd t1 l1 mk)) (hkd : kd < 4) (ht : t1 < 16) (hl : l1 < 8) (hmk : mk < 200) {pl co : Nat} {l12 l13 : Option Value}
    (K : lB nm 185 [some (.ref 0), some (.ref 1), some (.ref 53), some (.ref 54), some (.ref 55), some (.int (nI many)), some (.int (nI 1)), some (.int (nI k)), some (.int (nI mk)), some (.int (nI pl)), some (.int (nI co)), some (.int (nI i)), some (.int (nI kd)), some (.int (nI t1 - nI 1))] [] h rc rs) :
    lB nm 138 [some (.ref 0), some (.ref 1), some (.ref 53), some (.ref 54), some (.ref 55), some (.int (nI many)), some (.int (nI 1)), some (.int (nI k)), some (.int (nI mk)), some (.int (nI pl)), some (.int (nI co)), some (.int (nI i)), l12, l13] [] h rc rs := by
  obtain ⟨h1, h2, h9, h11, h12, h14, h27, h54, h55, h58, hT, hp, htr⟩ := H
  obtain ⟨q0, q1, q2, q3⟩ := mv_q hkd ht hl hmk
  have mv : ∀ w, w < 4 → am_Ct am_G0 m_TA_move 6 0 0 [.ref 1, .int (nI k), .int (nI i), .int (nI w)] h (fun v h' => v = some (.int (mvQ w (nI (mvN kd t1 l1 mk)))) ∧ h' = h) := fun w hw => by
    have := ct_TA_move h k many n i w mcv P' (nI 0) (nI l) (nI szk) tmv (nI lcv) (nI wcv) pth g' hk (by omega) (by omega) h1 h9 h14 h27 hT hp hi hmc (by omega) hw
    rwa [hg] at this
  refine am_B.run (hp := false) (sp := []) 200 rfl ?_
  refine am_B.callV (ci := 0) (n := 1) (as := [.int (nI k)]) rfl rfl rfl (ct_TA_movesQ h k many n 0 0 (nI 0) (nI l) _ (askW.done hk (by omega) (by omega) h1 h9 h14 h27 hT)) rfl rfl (by exact Nat.le_of_ble_eq_true rfl) rfl h1 rfl rfl (fun v h' z => ?_)
  obtain ⟨rfl, sz', tm', al', lf', wf', mf', p', hT', rfl⟩ := z
  have e := hT.symm.trans hT'
  simp only [Option.some.injEq, Sum.inr.injEq, Prod.mk.injEq, List.cons.injEq, Value.int.injEq, true_and, and_true] at e
  have e1 : mf' = nI mcv := e.2.2.2.2.2.1.symm
  subst e1
  refine am_B.icmp_ge rfl rfl (fun z => absurd z (nI_ge hi (by omega))) (fun _ => ?_)
  refine am_B.run (hp := false) (sp := []) 200 rfl ?_
  refine am_B.callV (ci := 0) (n := 3) (as := [.int (nI k), .int (nI i), .int (nI 0)]) rfl rfl rfl (mv 0 (by decide)) rfl rfl (by exact Nat.le_of_ble_eq_true rfl) rfl h1 rfl rfl (fun v h' z => ?_)
  obtain ⟨rfl, rfl⟩ := z
  rw [q0]
  refine am_B.run (hp := false) (sp := []) 200 rfl ?_
  refine am_B.callV (ci := 0) (n := 3) (as := [.int (nI k), .int (nI i), .int (nI 1)]) rfl rfl rfl (mv 1 (by decide)) rfl rfl (by exact Nat.le_of_ble_eq_true rfl) rfl h1 rfl rfl (fun v h' z => ?_)
  obtain ⟨rfl, rfl⟩ := z
  rw [q1]
  refine am_B.run (hp := false) (sp := []) 200 rfl ?_
  refine am_B.callV (ci := 0) (n := 3) (as := [.int (nI k), .int (nI i), .int (nI 3)]) rfl rfl rfl (mv 3 (by decide)) rfl rfl (by exact Nat.le_of_ble_eq_true rfl) rfl h1 rfl rfl (fun v h' z => ?_)
  obtain ⟨rfl, rfl⟩ := z
  rw [q3]
  refine am_B.run (hp := false) (sp := []) 200 rfl ?_
  refine am_B.icmp_ne rfl rfl (fun z => absurd rfl z) (fun _ => K)
-- the label of a move that passes one
set_option maxRecDepth 100000 in
set_option maxHeartbeats 4000000 in
theorem lw_lab (H : HL h k many n T P l szk mcv lcv wcv pth P' tmv ge gf rws trc row g') (hk : k < many) (hm : many ≤ 3) (hn : n ≤ 200) (hP : P' ≤ 3600) (hmc : mcv ≤ P') {i kd t1 lb mk : Nat} (hi : i < mcv) (hg : g' i = nI (mvN kd t1 (lb + 1) mk)) (hkd : kd < 2) (ht : t1 < 16) (hl : lb < 6) (hmk : mk < 200) {pl co : Nat} {by_ : Int32} (hpl : pl < szk) (hsz : szk ≤ 8) (hrow : row pl = nI lb)
    (K : lB nm 224 [some (.ref 0), some (.ref 1), some (.ref 53), some (.ref 54), some (.ref 55), some (.int (nI many)), some (.int (nI 1)), some (.int (nI k)), some (.int (nI mk)), some (.int (nI pl)), some (.int (nI co)), some (.int (nI i)), some (.int (nI kd)), some (.int by_)] [] h rc rs) :
    lB nm 185 [some (.ref 0), some (.ref 1), some (.ref 53), some (.ref 54), some (.ref 55), some (.int (nI many)), some (.int (nI 1)), some (.int (nI k)), some (.int (nI mk)), some (.int (nI pl)), some (.int (nI co)), some (.int (nI i)), some (.int (nI kd)), some (.int by_)] [] h rc rs := by
  obtain ⟨h1, h2, h9, h11, h12, h14, h27, h54, h55, h58, hT, hp, htr⟩ := H
  obtain ⟨q0, q1, q2, q3⟩ := mv_q (show kd < 4 by omega) ht (show lb + 1 < 8 by omega) hmk
  have mv : ∀ w, w < 4 → am_Ct am_G0 m_TA_move 6 0 0 [.ref 1, .int (nI k), .int (nI i), .int (nI w)] h (fun v h' => v = some (.int (mvQ w (nI (mvN kd t1 (lb + 1) mk)))) ∧ h' = h) := fun w hw => by
    have := ct_TA_move h k many n i w mcv P' (nI 0) (nI l) (nI szk) tmv (nI lcv) (nI wcv) pth g' hk (by omega) (by omega) h1 h9 h14 h27 hT hp hi hmc (by omega) hw
    rwa [hg] at this
  refine am_B.run (hp := false) (sp := []) 200 rfl ?_
  refine am_B.icmp_ge rfl rfl (fun z => absurd z (nI_ge hkd (by omega))) (fun _ => ?_)
  refine am_B.run (hp := false) (sp := []) 200 rfl ?_
  refine am_B.ald rfl h55 (vp_n (show k < 8 by omega) rfl) (tr_get (by omega) htr) ?_
  refine am_B.alen rfl rfl h58 (Or.inl ⟨by decide, rfl⟩) ?_
  refine am_B.icmp_ge rfl rfl (fun z => absurd z (nI_ge hpl (by omega))) (fun _ => ?_)
  refine am_B.run (hp := false) (sp := []) 200 rfl ?_
  refine am_B.callV (ci := 0) (n := 3) (as := [.int (nI k), .int (nI i), .int (nI 2)]) rfl rfl rfl (mv 2 (by decide)) rfl rfl (by exact Nat.le_of_ble_eq_true rfl) rfl h1 rfl rfl (fun v h' z => ?_)
  obtain ⟨rfl, rfl⟩ := z
  rw [q2, nI_prd]
  refine am_B.run (hp := false) (sp := []) 200 rfl ?_
  refine am_B.ald rfl h55 (vp_n (show k < 8 by omega) rfl) (tr_get (by omega) htr) ?_
  refine am_B.run (hp := false) (sp := []) 200 rfl ?_
  refine am_B.ald rfl h58 (vp_nI hpl (by omega)) rfl ?_
  rw [nI_clamp (show pl < 2 ^ 31 by omega), hrow]
  refine am_B.icmp_eq rfl rfl (fun _ => K) (fun z => absurd rfl z)
-- a transition that fires
set_option maxRecDepth 100000 in
set_option maxHeartbeats 4000000 in
theorem lw_fire (H : HL h k many n T P l szk mcv lcv wcv pth P' tmv ge gf rws trc row g') (hm : many ≤ 3) (hn : n ≤ 200) (hT6 : T ≤ 6) {i kd t mk mk' e : Nat} (hkd : kd ≠ 1) (hkd2 : kd < 4) (hmk : mk < n) (ht : t < T) (hge : ge mk = nI e) (hrow : rowOK T n e gf mk) (hmk' : mk' < n) (hgf : gf (mk * 10 + t) = nI mk') {pl co : Nat}
    (K : ∀ l12 l13 : Option Value, lB nm 331 [some (.ref 0), some (.ref 1), some (.ref 53), some (.ref 54), some (.ref 55), some (.int (nI many)), some (.int (nI 1)), some (.int (nI k)), some (.int (nI mk')), some (.int (nI pl)), some (.int (nI co)), some (.int (nI i)), l12, l13] [] h rc rs) :
    lB nm 296 [some (.ref 0), some (.ref 1), some (.ref 53), some (.ref 54), some (.ref 55), some (.int (nI many)), some (.int (nI 1)), some (.int (nI k)), some (.int (nI mk)), some (.int (nI pl)), some (.int (nI co)), some (.int (nI i)), some (.int (nI kd)), some (.int (nI t))] [] h rc rs := by
  obtain ⟨h1, h2, h9, h11, h12, h14, h27, h54, h55, h58, hT, hp, htr⟩ := H
  have hb : e.testBit t = true := by
    rcases hrow.2 t ht with ⟨-, q⟩ | ⟨q, -⟩
    · rw [hgf] at q
      exact absurd q (nI_neg1 (by omega))
    · exact q
  have he : e < 2 ^ 10 := Nat.lt_of_lt_of_le hrow.1 (Nat.pow_le_pow_right (by decide) (by omega))
  refine am_B.run (hp := false) (sp := []) 200 rfl ?_
  refine am_B.icmp_ne rfl rfl (fun _ => ?_) (fun z => absurd ((nI_eq (by omega) (by decide)).mp z) hkd)
  refine am_B.run (hp := false) (sp := []) 200 rfl ?_
  refine am_B.callV (ci := 0) (n := 1) (as := [.int (nI mk)]) rfl rfl rfl (ct_TA_enabled h n mk (nI 0) (nI many) (nI l) ge hn hmk h1 h9 h11) rfl rfl (by exact Nat.le_of_ble_eq_true rfl) rfl h1 rfl rfl (fun v h' z => ?_)
  obtain ⟨rfl, rfl⟩ := z
  rw [hge]
  refine am_B.run (hp := false) (sp := []) 200 rfl ?_
  rw [bit_q he (show t < 10 by omega), if_pos hb]
  refine am_B.if_ne rfl rfl (fun _ => ?_) (fun z => absurd z (by decide))
  refine am_B.run (hp := false) (sp := []) 200 rfl ?_
  refine am_B.callV (ci := 0) (n := 2) (as := [.int (nI mk), .int (nI t)]) rfl rfl rfl (ct_TA_next h' n T mk t (nI 0) (nI many) (nI l) (nI P) gf hn (by omega) hmk ht h1 h2 h9 h12) rfl rfl (by exact Nat.le_of_ble_eq_true rfl) rfl h1 rfl rfl (fun v h' z => ?_)
  obtain ⟨rfl, rfl⟩ := z
  rw [hgf]
  refine am_B.run (hp := false) (sp := [331]) 200 rfl ?_
  exact K _ _
end MOVES
