/-! ASKED of a trace -/
set_option maxRecDepth 100000 in
set_option maxHeartbeats 4000000 in
theorem ct_PF_alignDone0 (h : am_H) (q : Nat) (sz tm lf wf mf : Int32) (pth : Nat) (hTR : h[28 + 3 * q]? = some (c_TR q sz tm (nI 1) lf wf mf pth)) : am_Ct am_G0 m_PF_align 4 0 0 [.ref 14, .ref (28 + 3 * q)] h (fun v h' => v = none ∧ h' = h) := by
  refine am_Ct.of (E := E_PF_align) e_PF_align (by decide) (Nat.le_of_ble_eq_true rfl) ?_
  refine am_B.run (hp := false) (sp := []) 200 rfl ?_
  refine am_B.get rfl rfl rfl (by first | assumption | exact gs_s (by first | assumption | exact gs_s (by first | assumption | exact gs_s (by assumption) | (refine gs_n (by decide) ?_; assumption)) | (refine gs_n (by decide) ?_; first | assumption | exact gs_s (by assumption) | (refine gs_n (by decide) ?_; assumption))) | (refine gs_n (by decide) ?_; first | assumption | exact gs_s (by first | assumption | exact gs_s (by assumption) | (refine gs_n (by decide) ?_; assumption)) | (refine gs_n (by decide) ?_; first | assumption | exact gs_s (by assumption) | (refine gs_n (by decide) ?_; assumption)))) rfl rfl ?_
  refine am_B.run (hp := false) (sp := []) 200 rfl ?_
  refine am_B.if_eq rfl rfl (fun z => absurd z (by decide)) (fun _ => ?_)
  refine am_B.run (hp := false) (sp := []) 200 rfl ?_
  exact am_B.vret rfl rfl rfl ⟨rfl, rfl⟩
set_option maxRecDepth 100000 in
set_option maxHeartbeats 4000000 in
theorem ct_TA_alignedQ (h : am_H) (k m n dc ds : Nat) (nb la : Int32) (Qa : am_H → Prop) (hk : k < m) (hm : m ≤ 8) (hn : n < 2 ^ 31) (h1 : h[1]? = some (c_TA nb (nI m))) (h9 : h[9]? = some (c_MG (nI 1) (nI n) la)) (h14 : h[14]? = some c_PF) (h27 : h[27]? = some (ra 4 8 ts_))
    (ct : am_Ct am_G0 m_PF_align 4 dc ds [.ref 14, .ref (28 + 3 * k)] h (fun v h' => v = none ∧ Qa h')) (hq1 : ∀ h', Qa h' → h'[1]? = some (c_TA nb (nI m))) (hq27 : ∀ h', Qa h' → h'[27]? = some (ra 4 8 ts_)) :
    am_Ct am_G0 m_TA_alignedTrace 5 dc ds [.ref 1, .int (nI k)] h (fun v h' => v = some (.ref (28 + 3 * k)) ∧ Qa h') := by
  refine am_Ct.of (E := E_TA_alignedTrace) e_TA_alignedTrace (by decide) (Nat.le_of_ble_eq_true rfl) ?_
  refine am_B.run (hp := false) (sp := []) 200 rfl ?_
  refine am_B.callV (ci := 0) (n := 1) (as := [.int (nI k)]) rfl rfl rfl (ct_TA_requireTrace 0 h k m nb hk (by omega) h1) rfl rfl (by exact Nat.le_of_ble_eq_true rfl) rfl h1 rfl rfl (fun v h' z => ?_)
  obtain ⟨rfl, rfl⟩ := z
  refine am_B.run (hp := false) (sp := []) 200 rfl ?_
  refine am_B.callV (ci := 0) (n := 0) (as := []) rfl rfl rfl (ct_TA_requireMarkings h' n nb (nI m) la hn h1 h9) rfl rfl (by exact Nat.le_of_ble_eq_true rfl) rfl h1 rfl rfl (fun v h' z => ?_)
  obtain ⟨rfl, rfl⟩ := z
  refine am_B.run (hp := false) (sp := []) 200 rfl ?_
  refine am_B.get rfl rfl rfl (by first | assumption | exact gs_s (by first | assumption | exact gs_s (by first | assumption | exact gs_s (by assumption) | (refine gs_n (by decide) ?_; assumption)) | (refine gs_n (by decide) ?_; first | assumption | exact gs_s (by assumption) | (refine gs_n (by decide) ?_; assumption))) | (refine gs_n (by decide) ?_; first | assumption | exact gs_s (by first | assumption | exact gs_s (by assumption) | (refine gs_n (by decide) ?_; assumption)) | (refine gs_n (by decide) ?_; first | assumption | exact gs_s (by assumption) | (refine gs_n (by decide) ?_; assumption)))) rfl rfl ?_
  refine am_B.run (hp := false) (sp := []) 200 rfl ?_
  refine am_B.get rfl rfl rfl (by first | assumption | exact gs_s (by first | assumption | exact gs_s (by first | assumption | exact gs_s (by assumption) | (refine gs_n (by decide) ?_; assumption)) | (refine gs_n (by decide) ?_; first | assumption | exact gs_s (by assumption) | (refine gs_n (by decide) ?_; assumption))) | (refine gs_n (by decide) ?_; first | assumption | exact gs_s (by first | assumption | exact gs_s (by assumption) | (refine gs_n (by decide) ?_; assumption)) | (refine gs_n (by decide) ?_; first | assumption | exact gs_s (by assumption) | (refine gs_n (by decide) ?_; assumption)))) rfl rfl ?_
  refine am_B.run (hp := false) (sp := []) 200 rfl ?_
  refine am_B.ald rfl h27 (vp_n (show k < 8 by omega) rfl) (ts_get (show k < 8 by omega)) ?_
  refine am_B.run (hp := false) (sp := []) 200 rfl ?_
  refine am_B.callV (rc := 0) (rs := 0) (ci := 3) (n := 1) (as := [.ref (28 + 3 * k)]) rfl rfl rfl ct rfl rfl (by exact Nat.le_of_ble_eq_true rfl) rfl h14 (Nat.zero_add _) (Nat.zero_add _) (fun v h' z => ?_)
  obtain ⟨rfl, hQ⟩ := z
  have g1 := hq1 _ hQ
  have g27 := hq27 _ hQ
  refine am_B.run (hp := false) (sp := []) 200 rfl ?_
  refine am_B.get rfl rfl rfl (by first | assumption | exact gs_s (by first | assumption | exact gs_s (by first | assumption | exact gs_s (by assumption) | (refine gs_n (by decide) ?_; assumption)) | (refine gs_n (by decide) ?_; first | assumption | exact gs_s (by assumption) | (refine gs_n (by decide) ?_; assumption))) | (refine gs_n (by decide) ?_; first | assumption | exact gs_s (by first | assumption | exact gs_s (by assumption) | (refine gs_n (by decide) ?_; assumption)) | (refine gs_n (by decide) ?_; first | assumption | exact gs_s (by assumption) | (refine gs_n (by decide) ?_; assumption)))) rfl rfl ?_
  refine am_B.run (hp := false) (sp := []) 200 rfl ?_
  refine am_B.ald rfl g27 (vp_n (show k < 8 by omega) rfl) (ts_get (show k < 8 by omega)) ?_
  refine am_B.run (hp := false) (sp := []) 200 rfl ?_
  exact am_B.aret rfl rfl rfl ⟨rfl, hQ⟩
/-- of trace k, as it stands in a heap -/
def trAt (h : am_H) (k : Nat) (sz tm al lf wf mf : Int32) (p : Nat) : Prop := h[28 + 3 * k]? = some (c_TR k sz tm al lf wf mf p)
def askW (h : am_H) (k m n dc ds : Nat) (nb la : Int32) (Qa : am_H → Prop) : Prop :=
  k < m ∧ m ≤ 8 ∧ n < 2 ^ 31 ∧ h[1]? = some (c_TA nb (nI m)) ∧ h[9]? = some (c_MG (nI 1) (nI n) la) ∧ h[14]? = some c_PF ∧ h[27]? = some (ra 4 8 ts_) ∧
  am_Ct am_G0 m_PF_align 4 dc ds [.ref 14, .ref (28 + 3 * k)] h (fun v h' => v = none ∧ Qa h') ∧ (∀ h', Qa h' → h'[1]? = some (c_TA nb (nI m))) ∧ (∀ h', Qa h' → h'[27]? = some (ra 4 8 ts_)) ∧ ∀ h', Qa h' → ∃ sz tm al lf wf mf p, trAt h' k sz tm al lf wf mf p
theorem askW.done {h : am_H} {k m n : Nat} {nb la sz tm lf wf mf : Int32} {p : Nat} (hk : k < m) (hm : m ≤ 8) (hn : n < 2 ^ 31) (h1 : h[1]? = some (c_TA nb (nI m))) (h9 : h[9]? = some (c_MG (nI 1) (nI n) la)) (h14 : h[14]? = some c_PF) (h27 : h[27]? = some (ra 4 8 ts_)) (hT : trAt h k sz tm (nI 1) lf wf mf p) : askW h k m n 0 0 nb la (fun h' => h' = h) :=
  ⟨hk, hm, hn, h1, h9, h14, h27, ct_PF_alignDone0 h k sz tm lf wf mf p hT, fun _ e => e ▸ h1, fun _ e => e ▸ h27, fun _ e => e ▸ ⟨_, _, _, _, _, _, _, hT⟩⟩
set_option maxRecDepth 100000 in
set_option maxHeartbeats 4000000 in
theorem ct_TA_movesQ (h : am_H) (k m n dc ds : Nat) (nb la : Int32) (Qa : am_H → Prop) (W : askW h k m n dc ds nb la Qa) : am_Ct am_G0 m_TA_moves 6 dc ds [.ref 1, .int (nI k)] h (fun v h' => Qa h' ∧ ∃ sz tm al lf wf mf p, trAt h' k sz tm al lf wf mf p ∧ v = some (.int mf)) := by
  obtain ⟨hk, hm, hn, h1, h9, h14, h27, ct, q1, q27, qT⟩ := W
  refine am_Ct.of (E := E_TA_moves) e_TA_moves (by decide) (Nat.le_of_ble_eq_true rfl) ?_
  refine am_B.run (hp := false) (sp := []) 200 rfl ?_
  refine am_B.callV (rc := 0) (rs := 0) (ci := 0) (n := 1) (as := [.int (nI k)]) rfl rfl rfl (ct_TA_alignedQ h k m n dc ds nb la Qa hk hm hn h1 h9 h14 h27 ct q1 q27) rfl rfl (by exact Nat.le_of_ble_eq_true rfl) rfl h1 (Nat.zero_add _) (Nat.zero_add _) (fun v h' z => ?_)
  obtain ⟨rfl, hQ⟩ := z
  obtain ⟨sz, tm, al, lf, wf, mf, p, hT⟩ := qT _ hQ
  have hT' := hT
  unfold trAt at hT'
  refine am_B.run (hp := false) (sp := []) 200 rfl ?_
  refine am_B.get rfl rfl rfl (by first | assumption | exact gs_s (by first | assumption | exact gs_s (by first | assumption | exact gs_s (by assumption) | (refine gs_n (by decide) ?_; assumption)) | (refine gs_n (by decide) ?_; first | assumption | exact gs_s (by assumption) | (refine gs_n (by decide) ?_; assumption))) | (refine gs_n (by decide) ?_; first | assumption | exact gs_s (by first | assumption | exact gs_s (by assumption) | (refine gs_n (by decide) ?_; assumption)) | (refine gs_n (by decide) ?_; first | assumption | exact gs_s (by assumption) | (refine gs_n (by decide) ?_; assumption)))) rfl rfl ?_
  exact am_B.iret rfl rfl rfl ⟨hQ, sz, tm, al, lf, wf, mf, p, hT, rfl⟩
set_option maxRecDepth 100000 in
set_option maxHeartbeats 4000000 in
theorem ct_TA_costQ (h : am_H) (k m n dc ds : Nat) (nb la : Int32) (Qa : am_H → Prop) (W : askW h k m n dc ds nb la Qa) : am_Ct am_G0 m_TA_cost 6 dc ds [.ref 1, .int (nI k)] h (fun v h' => Qa h' ∧ ∃ sz tm al lf wf mf p, trAt h' k sz tm al lf wf mf p ∧ v = some (.int lf)) := by
  obtain ⟨hk, hm, hn, h1, h9, h14, h27, ct, q1, q27, qT⟩ := W
  refine am_Ct.of (E := E_TA_cost) e_TA_cost (by decide) (Nat.le_of_ble_eq_true rfl) ?_
  refine am_B.run (hp := false) (sp := []) 200 rfl ?_
  refine am_B.callV (rc := 0) (rs := 0) (ci := 0) (n := 1) (as := [.int (nI k)]) rfl rfl rfl (ct_TA_alignedQ h k m n dc ds nb la Qa hk hm hn h1 h9 h14 h27 ct q1 q27) rfl rfl (by exact Nat.le_of_ble_eq_true rfl) rfl h1 (Nat.zero_add _) (Nat.zero_add _) (fun v h' z => ?_)
  obtain ⟨rfl, hQ⟩ := z
  obtain ⟨sz, tm, al, lf, wf, mf, p, hT⟩ := qT _ hQ
  have hT' := hT
  unfold trAt at hT'
  refine am_B.run (hp := false) (sp := []) 200 rfl ?_
  refine am_B.get rfl rfl rfl (by first | assumption | exact gs_s (by first | assumption | exact gs_s (by first | assumption | exact gs_s (by assumption) | (refine gs_n (by decide) ?_; assumption)) | (refine gs_n (by decide) ?_; first | assumption | exact gs_s (by assumption) | (refine gs_n (by decide) ?_; assumption))) | (refine gs_n (by decide) ?_; first | assumption | exact gs_s (by first | assumption | exact gs_s (by assumption) | (refine gs_n (by decide) ?_; assumption)) | (refine gs_n (by decide) ?_; first | assumption | exact gs_s (by assumption) | (refine gs_n (by decide) ?_; assumption)))) rfl rfl ?_
  exact am_B.iret rfl rfl rfl ⟨hQ, sz, tm, al, lf, wf, mf, p, hT, rfl⟩
set_option maxRecDepth 100000 in
set_option maxHeartbeats 4000000 in
theorem ct_TA_worstQ (h : am_H) (k m n dc ds : Nat) (nb la : Int32) (Qa : am_H → Prop) (W : askW h k m n dc ds nb la Qa) : am_Ct am_G0 m_TA_worst 6 dc ds [.ref 1, .int (nI k)] h (fun v h' => Qa h' ∧ ∃ sz tm al lf wf mf p, trAt h' k sz tm al lf wf mf p ∧ v = some (.int wf)) := by
  obtain ⟨hk, hm, hn, h1, h9, h14, h27, ct, q1, q27, qT⟩ := W
  refine am_Ct.of (E := E_TA_worst) e_TA_worst (by decide) (Nat.le_of_ble_eq_true rfl) ?_
  refine am_B.run (hp := false) (sp := []) 200 rfl ?_
  refine am_B.callV (rc := 0) (rs := 0) (ci := 0) (n := 1) (as := [.int (nI k)]) rfl rfl rfl (ct_TA_alignedQ h k m n dc ds nb la Qa hk hm hn h1 h9 h14 h27 ct q1 q27) rfl rfl (by exact Nat.le_of_ble_eq_true rfl) rfl h1 (Nat.zero_add _) (Nat.zero_add _) (fun v h' z => ?_)
  obtain ⟨rfl, hQ⟩ := z
  obtain ⟨sz, tm, al, lf, wf, mf, p, hT⟩ := qT _ hQ
  have hT' := hT
  unfold trAt at hT'
  refine am_B.run (hp := false) (sp := []) 200 rfl ?_
  refine am_B.get rfl rfl rfl (by first | assumption | exact gs_s (by first | assumption | exact gs_s (by first | assumption | exact gs_s (by assumption) | (refine gs_n (by decide) ?_; assumption)) | (refine gs_n (by decide) ?_; first | assumption | exact gs_s (by assumption) | (refine gs_n (by decide) ?_; assumption))) | (refine gs_n (by decide) ?_; first | assumption | exact gs_s (by first | assumption | exact gs_s (by assumption) | (refine gs_n (by decide) ?_; assumption)) | (refine gs_n (by decide) ?_; first | assumption | exact gs_s (by assumption) | (refine gs_n (by decide) ?_; assumption)))) rfl rfl ?_
  exact am_B.iret rfl rfl rfl ⟨hQ, sz, tm, al, lf, wf, mf, p, hT, rfl⟩
/-- what is told of a move -/
def mvQ (w : Nat) (x : Int32) : Int32 := if w = 0 then x &&& nI 3 else if w = 1 then ((x >>> (nI 2 &&& 31)) &&& nI 15) - nI 1 else if w = 2 then ((x >>> (nI 6 &&& 31)) &&& nI 7) - nI 1 else x >>> (nI 9 &&& 31)
set_option maxRecDepth 100000 in
theorem de_move : decode m_TA_move.2.1 40 = .ok (.tableswitch 56 0 3 #[32, 38, 44, 50], 32) := by decide +kernel
set_option maxRecDepth 100000 in
set_option maxHeartbeats 4000000 in
theorem ct_TA_move (h : am_H) (k m n i w mc P : Nat) (nb la sz tm lf wf : Int32) (p : Nat) (g : Nat → Int32) (hk : k < m) (hm : m ≤ 8) (hn : n < 2 ^ 31) (h1 : h[1]? = some (c_TA nb (nI m))) (h9 : h[9]? = some (c_MG (nI 1) (nI n) la)) (h14 : h[14]? = some c_PF) (h27 : h[27]? = some (ra 4 8 ts_))
    (hT : h[28 + 3 * k]? = some (c_TR k sz tm (nI 1) lf wf (nI mc) p)) (hp : h[p]? = some (ia P g)) (hi : i < mc) (hmc : mc ≤ P) (hP : P < 2 ^ 31) (hw : w < 4) : am_Ct am_G0 m_TA_move 6 0 0 [.ref 1, .int (nI k), .int (nI i), .int (nI w)] h (fun v h' => v = some (.int (mvQ w (g i))) ∧ h' = h) := by
  have hd := de_move
  refine am_Ct.of (E := E_TA_move) e_TA_move (by decide) (Nat.le_of_ble_eq_true rfl) ?_
  refine am_B.run (hp := false) (sp := []) 200 rfl ?_
  refine am_B.callV (ci := 0) (n := 1) (as := [.int (nI k)]) rfl rfl rfl (ct_TA_alignedQ h k m n 0 0 nb la (fun h' => h' = h) hk hm hn h1 h9 h14 h27 (ct_PF_alignDone0 h k sz tm lf wf (nI mc) p hT) (fun _ e => e ▸ h1) (fun _ e => e ▸ h27)) rfl rfl (by exact Nat.le_of_ble_eq_true rfl) rfl h1 rfl rfl (fun v h' z => ?_)
  obtain ⟨rfl, rfl⟩ := z
  refine am_B.run (hp := false) (sp := []) 200 rfl ?_
  refine am_B.if_lt rfl rfl (fun z => absurd z (nI_nlt (Nat.zero_le i) (by omega))) (fun _ => ?_)
  refine am_B.run (hp := false) (sp := []) 200 rfl ?_
  refine am_B.get rfl rfl rfl (by first | assumption | exact gs_s (by first | assumption | exact gs_s (by first | assumption | exact gs_s (by assumption) | (refine gs_n (by decide) ?_; assumption)) | (refine gs_n (by decide) ?_; first | assumption | exact gs_s (by assumption) | (refine gs_n (by decide) ?_; assumption))) | (refine gs_n (by decide) ?_; first | assumption | exact gs_s (by first | assumption | exact gs_s (by assumption) | (refine gs_n (by decide) ?_; assumption)) | (refine gs_n (by decide) ?_; first | assumption | exact gs_s (by assumption) | (refine gs_n (by decide) ?_; assumption)))) rfl rfl ?_
  refine am_B.icmp_lt rfl rfl (fun _ => ?_) (fun z => absurd (nI_lt hi (by omega)) z)
  refine am_B.run (hp := false) (sp := []) 200 rfl ?_
  refine am_B.get rfl rfl rfl (by first | assumption | exact gs_s (by first | assumption | exact gs_s (by first | assumption | exact gs_s (by assumption) | (refine gs_n (by decide) ?_; assumption)) | (refine gs_n (by decide) ?_; first | assumption | exact gs_s (by assumption) | (refine gs_n (by decide) ?_; assumption))) | (refine gs_n (by decide) ?_; first | assumption | exact gs_s (by first | assumption | exact gs_s (by assumption) | (refine gs_n (by decide) ?_; assumption)) | (refine gs_n (by decide) ?_; first | assumption | exact gs_s (by assumption) | (refine gs_n (by decide) ?_; assumption)))) rfl rfl ?_
  refine am_B.run (hp := false) (sp := []) 200 rfl ?_
  refine am_B.ald rfl hp (vp_nI (show i < P by omega) hP) rfl ?_
  rw [nI_clamp (show i < 2 ^ 31 by omega)]
  refine am_B.run (hp := false) (sp := []) 200 rfl ?_
  obtain rfl | rfl | rfl | rfl : w = 0 ∨ w = 1 ∨ w = 2 ∨ w = 3 := by omega
  · refine am_B.tswIn (tgt := 72) hd (by decide) (by decide) rfl rfl ?_
    refine am_B.run (hp := false) (sp := []) 200 rfl ?_
    refine am_B.callS (n := 1) (as := [.int (g i)]) rfl rfl rfl (ct_TA_kindOf 0 _ (g i)) rfl rfl (by exact Nat.le_of_ble_eq_true rfl) rfl rfl rfl (fun v h' q => ?_)
    obtain ⟨rfl, rfl⟩ := q
    exact am_B.iret rfl rfl rfl ⟨rfl, rfl⟩
  · refine am_B.tswIn (tgt := 78) hd (by decide) (by decide) rfl rfl ?_
    refine am_B.run (hp := false) (sp := []) 200 rfl ?_
    refine am_B.callS (n := 1) (as := [.int (g i)]) rfl rfl rfl (ct_TA_transitionOf 0 _ (g i)) rfl rfl (by exact Nat.le_of_ble_eq_true rfl) rfl rfl rfl (fun v h' q => ?_)
    obtain ⟨rfl, rfl⟩ := q
    exact am_B.iret rfl rfl rfl ⟨rfl, rfl⟩
  · refine am_B.tswIn (tgt := 84) hd (by decide) (by decide) rfl rfl ?_
    refine am_B.run (hp := false) (sp := []) 200 rfl ?_
    refine am_B.callS (n := 1) (as := [.int (g i)]) rfl rfl rfl (ct_TA_labelOf 0 _ (g i)) rfl rfl (by exact Nat.le_of_ble_eq_true rfl) rfl rfl rfl (fun v h' q => ?_)
    obtain ⟨rfl, rfl⟩ := q
    exact am_B.iret rfl rfl rfl ⟨rfl, rfl⟩
  · refine am_B.tswIn (tgt := 90) hd (by decide) (by decide) rfl rfl ?_
    refine am_B.run (hp := false) (sp := []) 200 rfl ?_
    refine am_B.callS (n := 1) (as := [.int (g i)]) rfl rfl rfl (ct_TA_markingOf 0 _ (g i)) rfl rfl (by exact Nat.le_of_ble_eq_true rfl) rfl rfl rfl (fun v h' q => ?_)
    obtain ⟨rfl, rfl⟩ := q
    exact am_B.iret rfl rfl rfl ⟨rfl, rfl⟩
set_option maxRecDepth 100000 in
set_option maxHeartbeats 4000000 in
theorem ct_TA_length (h : am_H) (k m : Nat) (nb sz tm al lf wf mf : Int32) (p : Nat) (hk : k < m) (hm : m ≤ 8) (h1 : h[1]? = some (c_TA nb (nI m))) (h27 : h[27]? = some (ra 4 8 ts_)) (hT : h[28 + 3 * k]? = some (c_TR k sz tm al lf wf mf p)) : am_Ct am_G0 m_TA_length 1 0 0 [.ref 1, .int (nI k)] h (fun v h' => v = some (.int sz) ∧ h' = h) := by
  refine am_Ct.of (E := E_TA_length) e_TA_length (by decide) (Nat.le_of_ble_eq_true rfl) ?_
  refine am_B.run (hp := false) (sp := []) 200 rfl ?_
  refine am_B.callV (ci := 0) (n := 1) (as := [.int (nI k)]) rfl rfl rfl (ct_TA_requireTrace 0 h k m nb hk (by omega) h1) rfl rfl (by exact Nat.le_of_ble_eq_true rfl) rfl h1 rfl rfl (fun v h' z => ?_)
  obtain ⟨rfl, rfl⟩ := z
  refine am_B.run (hp := false) (sp := []) 200 rfl ?_
  refine am_B.get rfl rfl rfl (by first | assumption | exact gs_s (by first | assumption | exact gs_s (by first | assumption | exact gs_s (by assumption) | (refine gs_n (by decide) ?_; assumption)) | (refine gs_n (by decide) ?_; first | assumption | exact gs_s (by assumption) | (refine gs_n (by decide) ?_; assumption))) | (refine gs_n (by decide) ?_; first | assumption | exact gs_s (by first | assumption | exact gs_s (by assumption) | (refine gs_n (by decide) ?_; assumption)) | (refine gs_n (by decide) ?_; first | assumption | exact gs_s (by assumption) | (refine gs_n (by decide) ?_; assumption)))) rfl rfl ?_
  refine am_B.run (hp := false) (sp := []) 200 rfl ?_
  refine am_B.ald rfl h27 (vp_n (show k < 8 by omega) rfl) (ts_get (show k < 8 by omega)) ?_
  refine am_B.run (hp := false) (sp := []) 200 rfl ?_
  refine am_B.get rfl rfl rfl hT rfl rfl ?_
  exact am_B.iret rfl rfl rfl ⟨rfl, rfl⟩
set_option maxRecDepth 100000 in
set_option maxHeartbeats 4000000 in
theorem ct_TA_away (h : am_H) (n T l m : Nat) (nb nt pc : Int32) (gl gf : Nat → Int32) (lc : Nat → Nat) (hn : n ≤ 200) (hT : T ≤ 10) (hl : l < n) (hm : m < n) (hwf : wfF n T gf) (W : pfW h n T pc (nI 1) (nI l) gl gf lc) (h1 : h[1]? = some (c_TA nb nt)) (h15 : ∃ g, h[15]? = some (ia 10 g)) (hrows : rowsOK h) :
    am_Ct am_G0 m_TA_away 4 0 0 [.ref 1, .int (nI m)] h (fun v h' => ∃ r, v = some (.int (if r m = 1073741824 then -1 else nI (r m))) ∧ r m ≤ 1073741824 ∧ am_fr pfC h h' ∧ (∃ g, h'[15]? = some (ia 10 g)) ∧ rowsOK h' ∧ fixOK n T gf (fun _ => 1) (endB l) r) := by
  have h9 := W.2.2.1
  have h14 := W.2.2.2.2.2.1
  refine am_Ct.of (E := E_TA_away) e_TA_away (by decide) (Nat.le_of_ble_eq_true rfl) ?_
  refine am_B.run (hp := false) (sp := []) 200 rfl ?_
  refine am_B.callV (ci := 0) (n := 0) (as := []) rfl rfl rfl (ct_TA_requireMarkings h n nb nt (nI l) (by omega) h1 h9) rfl rfl (by exact Nat.le_of_ble_eq_true rfl) rfl h1 rfl rfl (fun v h' z => ?_)
  obtain ⟨rfl, rfl⟩ := z
  refine am_B.run (hp := false) (sp := []) 200 rfl ?_
  refine am_B.callV (ci := 0) (n := 1) (as := [.int (nI m)]) rfl rfl rfl (ct_TA_requireMarking 0 _ m n nb nt (nI 1) (nI l) hm (by omega) h1 h9) rfl rfl (by exact Nat.le_of_ble_eq_true rfl) rfl h1 rfl rfl (fun v h' z => ?_)
  obtain ⟨rfl, rfl⟩ := z
  refine am_B.run (hp := false) (sp := []) 200 rfl ?_
  refine am_B.get rfl rfl rfl (by first | assumption | exact gs_s (by first | assumption | exact gs_s (by first | assumption | exact gs_s (by assumption) | (refine gs_n (by decide) ?_; assumption)) | (refine gs_n (by decide) ?_; first | assumption | exact gs_s (by assumption) | (refine gs_n (by decide) ?_; assumption))) | (refine gs_n (by decide) ?_; first | assumption | exact gs_s (by first | assumption | exact gs_s (by assumption) | (refine gs_n (by decide) ?_; assumption)) | (refine gs_n (by decide) ?_; first | assumption | exact gs_s (by assumption) | (refine gs_n (by decide) ?_; assumption)))) rfl rfl ?_
  refine am_B.run (hp := false) (sp := []) 200 rfl ?_
  refine am_B.callV (ci := 3) (n := 1) (as := [.int (nI m)]) rfl rfl rfl (ct_PF_stepsToLast _ n T l m pc (nI 1) gl gf lc hn hT hl hm hwf W h15 hrows) rfl rfl (by exact Nat.le_of_ble_eq_true rfl) rfl h14 rfl rfl (fun v h' z => ?_)
  obtain ⟨r, rfl, z⟩ := z
  exact am_B.iret rfl rfl rfl ⟨r, rfl, z⟩
set_option maxRecDepth 100000 in
set_option maxHeartbeats 4000000 in
theorem ct_TA_markings (h : am_H) (P T : Nat) (nb nt sz0 la0 : Int32) (gi go gft glt gc0 ge0 gf0 : Nat → Int32) (hl : 12 < h.length) (hP : P ≤ 8) (hT : T ≤ 10) (h1 : h[1]? = some (c_TA nb nt)) (h2 : h[2]? = some (c_NT (nI P) (nI T))) (h5 : h[5]? = some (ia 10 gi)) (h6 : h[6]? = some (ia 10 go)) (h7 : h[7]? = some (ia 8 gft)) (h8 : h[8]? = some (ia 8 glt))
    (h9 : h[9]? = some (c_MG 0 sz0 la0)) (h10 : h[10]? = some (ia 200 gc0)) (h11 : h[11]? = some (ia 200 ge0)) (h12 : h[12]? = some (ia 2000 gf0)) : am_Ct am_G0 m_TA_markings 4 0 0 [.ref 1] h (fun v h' => ∃ sz la gc ge gf, v = some (.int sz) ∧ h' = n4 h (c_MG (nI 1) sz la) (ia 200 gc) (ia 200 ge) (ia 2000 gf) ∧ gOK T sz la ge gf) := by
  refine am_Ct.of (E := E_TA_markings) e_TA_markings (by decide) (Nat.le_of_ble_eq_true rfl) ?_
  refine am_B.run (hp := false) (sp := []) 200 rfl ?_
  refine am_B.get rfl rfl rfl (by first | assumption | exact gs_s (by first | assumption | exact gs_s (by first | assumption | exact gs_s (by assumption) | (refine gs_n (by decide) ?_; assumption)) | (refine gs_n (by decide) ?_; first | assumption | exact gs_s (by assumption) | (refine gs_n (by decide) ?_; assumption))) | (refine gs_n (by decide) ?_; first | assumption | exact gs_s (by first | assumption | exact gs_s (by assumption) | (refine gs_n (by decide) ?_; assumption)) | (refine gs_n (by decide) ?_; first | assumption | exact gs_s (by assumption) | (refine gs_n (by decide) ?_; assumption)))) rfl rfl ?_
  refine am_B.run (hp := false) (sp := []) 200 rfl ?_
  refine am_B.callV (ci := 2) (n := 0) (as := []) rfl rfl rfl (ct_MG_explore h P T sz0 la0 gi go gft glt gc0 ge0 gf0 hl hP hT h2 h5 h6 h7 h8 h9 h10 h11 h12) rfl rfl (by exact Nat.le_of_ble_eq_true rfl) rfl h9 rfl rfl (fun v h' z => ?_)
  obtain ⟨rfl, sz, la, gc, ge, gf, rfl, hg⟩ := z
  have g1 : (n4 h (c_MG (nI 1) sz la) (ia 200 gc) (ia 200 ge) (ia 2000 gf))[1]? = some (c_TA nb nt) := (n4_o (by decide) (by decide) (by decide) (by decide)).trans h1
  have g9 : (n4 h (c_MG (nI 1) sz la) (ia 200 gc) (ia 200 ge) (ia 2000 gf))[9]? = some (c_MG (nI 1) sz la) := n4_9 hl
  refine am_B.run (hp := false) (sp := []) 200 rfl ?_
  refine am_B.get rfl rfl rfl (by first | assumption | exact gs_s (by first | assumption | exact gs_s (by first | assumption | exact gs_s (by assumption) | (refine gs_n (by decide) ?_; assumption)) | (refine gs_n (by decide) ?_; first | assumption | exact gs_s (by assumption) | (refine gs_n (by decide) ?_; assumption))) | (refine gs_n (by decide) ?_; first | assumption | exact gs_s (by first | assumption | exact gs_s (by assumption) | (refine gs_n (by decide) ?_; assumption)) | (refine gs_n (by decide) ?_; first | assumption | exact gs_s (by assumption) | (refine gs_n (by decide) ?_; assumption)))) rfl rfl ?_
  refine am_B.run (hp := false) (sp := []) 200 rfl ?_
  refine am_B.get rfl rfl rfl (by first | assumption | exact gs_s (by first | assumption | exact gs_s (by first | assumption | exact gs_s (by assumption) | (refine gs_n (by decide) ?_; assumption)) | (refine gs_n (by decide) ?_; first | assumption | exact gs_s (by assumption) | (refine gs_n (by decide) ?_; assumption))) | (refine gs_n (by decide) ?_; first | assumption | exact gs_s (by first | assumption | exact gs_s (by assumption) | (refine gs_n (by decide) ?_; assumption)) | (refine gs_n (by decide) ?_; first | assumption | exact gs_s (by assumption) | (refine gs_n (by decide) ?_; assumption)))) rfl rfl ?_
  exact am_B.iret rfl rfl rfl ⟨sz, la, gc, ge, gf, rfl, rfl, hg⟩
