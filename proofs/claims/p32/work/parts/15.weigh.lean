/-! WEIGHING: the rows of the finder -/
theorem rs_get {j : Nat} (hj : j < 9) : am_aget .aaload 5 (9, .inr (.inr (.inr (.inr rs_)))) (nI j).toNatClampNeg = some (.ref (17 + j)) := by
  rw [nI_clamp (by omega)]
  show some (am_rv rs_ j) = _
  unfold am_rv rs_
  rw [if_pos hj]
theorem ex_nI (g : Nat → Int32) : ∃ g' : Nat → Nat, g = fun i => nI (g' i) := by
  refine ⟨fun i => (g i).toBitVec.toNat, funext fun i => ?_⟩
  apply Int32.toBitVec_inj.1
  show _ = BitVec.ofNat 32 _
  simp
set_option maxRecDepth 100000 in
set_option maxHeartbeats 4000000 in
theorem ct_MA_min (h : am_H) (a b : Nat) (ha : a < 2 ^ 31) (hb : b < 2 ^ 31) : am_Ct am_G0 m_MA_min 0 0 0 [.int (nI a), .int (nI b)] h (fun v h' => h' = h ∧ v = some (.int (nI (min a b)))) := by
  refine am_Ct.ofF (E := E_MA_min) e_MA_min pf_min (Nat.le_of_ble_eq_true rfl) ?_
  refine am_B.run (hp := false) (sp := []) 200 rfl ?_
  refine am_B.icmp_gt rfl rfl (fun z => ?_) (fun z => ?_)
  · have := (nI_ltI hb ha).mp z
    refine am_B.run (hp := false) (sp := []) 200 rfl ?_
    exact am_B.iret rfl rfl rfl ⟨rfl, by rw [Nat.min_eq_right (by omega)]⟩
  · have : ¬ b < a := fun q => z ((nI_ltI hb ha).mpr q)
    refine am_B.run (hp := false) (sp := []) 200 rfl ?_
    exact am_B.iret rfl rfl rfl ⟨rfl, by rw [Nat.min_eq_left (by omega)]⟩
set_option maxRecDepth 100000 in
set_option maxHeartbeats 4000000 in
theorem ct_MA_max (h : am_H) (a b : Nat) (ha : a < 2 ^ 31) (hb : b < 2 ^ 31) : am_Ct am_G0 m_MA_max 0 0 0 [.int (nI a), .int (nI b)] h (fun v h' => h' = h ∧ v = some (.int (nI (max a b)))) := by
  refine am_Ct.ofF (E := E_MA_max) e_MA_max pf_max (Nat.le_of_ble_eq_true rfl) ?_
  refine am_B.run (hp := false) (sp := []) 200 rfl ?_
  refine am_B.icmp_lt rfl rfl (fun z => ?_) (fun z => ?_)
  · have := (nI_ltI ha hb).mp z
    refine am_B.run (hp := false) (sp := []) 200 rfl ?_
    exact am_B.iret rfl rfl rfl ⟨rfl, by rw [Nat.max_eq_right (by omega)]⟩
  · have : ¬ a < b := fun q => z ((nI_ltI ha hb).mpr q)
    refine am_B.run (hp := false) (sp := []) 200 rfl ?_
    exact am_B.iret rfl rfl rfl ⟨rfl, by rw [Nat.max_eq_left (by omega)]⟩
/-- what the finder sees -/
def pfW (h : am_H) (n T : Nat) (pc ex la : Int32) (gl gf : Nat → Int32) (lc : Nat → Nat) : Prop :=
  h[2]? = some (c_NT pc (nI T)) ∧ h[3]? = some (ia 10 gl) ∧ h[9]? = some (c_MG ex (nI n) la) ∧ h[12]? = some (ia 2000 gf) ∧ h[13]? = some (ia 6 fun l => nI (lc l)) ∧ h[14]? = some c_PF ∧ h[16]? = some (ra 5 9 rs_)
theorem pfW.set {h : am_H} {n T : Nat} {pc ex la : Int32} {gl gf : Nat → Int32} {lc : Nat → Nat} (W : pfW h n T pc ex la gl gf lc) {ro : Nat} (hro : 17 ≤ ro ∨ ro = 15) (x : am_C) : pfW (h.set ro x) n T pc ex la gl gf lc := by
  obtain ⟨h2, h3, h9, h12, h13, h14, h16⟩ := W
  exact ⟨gs_n (by omega) h2, gs_n (by omega) h3, gs_n (by omega) h9, gs_n (by omega) h12, gs_n (by omega) h13, gs_n (by omega) h14, gs_n (by omega) h16⟩
theorem fixOK.base {n T : Nat} {gf : Nat → Int32} {w b b' D : Nat → Nat} (hD : fixOK n T gf w b D) (he : ∀ i, i < n → b i = b' i) : fixOK n T gf w b' D := by
  obtain ⟨h1, h2, h3, h4⟩ := hD
  refine ⟨h1, fun i hi => (he i hi) ▸ h2 i hi, fun m hm => (he m hm) ▸ h3 m hm, fun D' q1 q2 i hi => h4 D' (fun j hj => (he j hj).symm ▸ q1 j hj) q2 i hi⟩
/-- the row with all labels passed -/
def endB (l : Nat) (i : Nat) : Nat := if i = l then 0 else 1073741824
set_option maxRecDepth 100000 in
set_option maxHeartbeats 4000000 in
theorem ct_PF_weighEnd (h : am_H) (ro n T l : Nat) (pc ex : Int32) (gl gf g : Nat → Int32) (lc w : Nat → Nat) (hro : 17 ≤ ro) (hn : n ≤ 200) (hT : T ≤ 10) (hl : l < n) (hwf : wfF n T gf) (hw : ∀ t, t < T → w t ≤ 36865) (hw1 : ∀ t, t < T → 1 ≤ w t)
    (W : pfW h n T pc ex (nI l) gl gf lc) (h15 : h[15]? = some (ia 10 fun t => nI (w t))) (hR : h[ro]? = some (ia 200 g)) : am_Ct am_G0 m_PF_weighEnd 2 0 0 [.ref 14, .ref ro] h (fun v h' => v = none ∧ ∃ r, h' = h.set ro (ia 200 fun i => nI (r i)) ∧ fixOK n T gf w (endB l) r) := by
  obtain ⟨g', rfl⟩ := ex_nI g
  refine am_Ct.of (E := E_PF_weighEnd) e_PF_weighEnd (by decide) (Nat.le_of_ble_eq_true rfl) ?_
  refine am_B.run (hp := false) (sp := []) 200 rfl ?_
  refine am_B.callS (ci := 0) (n := 2) (as := [.ref ro, .int (nI 1073741824)]) rfl rfl rfl (ct_AR_fill 0 _ ro 200 _ (nI 1073741824) hR (by decide)) rfl rfl (by exact Nat.le_of_ble_eq_true rfl) rfl rfl rfl (fun v h' q => ?_)
  obtain ⟨rfl, rfl⟩ := q
  obtain ⟨h2, h3, h9, h12, h13, h14, h16⟩ := W.set (Or.inl hro) (ia 200 fun j => if j < 200 then nI 1073741824 else nI (g' j))
  have hR2 := gs_s (c := ia 200 fun j => if j < 200 then nI 1073741824 else nI (g' j)) hR
  refine am_B.run (hp := false) (sp := []) 200 rfl ?_
  refine am_B.get rfl rfl rfl (by first | assumption | exact gs_s (by first | assumption | exact gs_s (by first | assumption | exact gs_s (by assumption) | (refine gs_n (by decide) ?_; assumption)) | (refine gs_n (by decide) ?_; first | assumption | exact gs_s (by assumption) | (refine gs_n (by decide) ?_; assumption))) | (refine gs_n (by decide) ?_; first | assumption | exact gs_s (by first | assumption | exact gs_s (by assumption) | (refine gs_n (by decide) ?_; assumption)) | (refine gs_n (by decide) ?_; first | assumption | exact gs_s (by assumption) | (refine gs_n (by decide) ?_; assumption)))) rfl rfl ?_
  refine am_B.run (hp := false) (sp := []) 200 rfl ?_
  refine am_B.get rfl rfl rfl (by first | assumption | exact gs_s (by first | assumption | exact gs_s (by first | assumption | exact gs_s (by assumption) | (refine gs_n (by decide) ?_; assumption)) | (refine gs_n (by decide) ?_; first | assumption | exact gs_s (by assumption) | (refine gs_n (by decide) ?_; assumption))) | (refine gs_n (by decide) ?_; first | assumption | exact gs_s (by first | assumption | exact gs_s (by assumption) | (refine gs_n (by decide) ?_; assumption)) | (refine gs_n (by decide) ?_; first | assumption | exact gs_s (by assumption) | (refine gs_n (by decide) ?_; assumption)))) rfl rfl ?_
  refine am_B.run (hp := false) (sp := []) 200 rfl ?_
  refine am_B.icmp_eq rfl rfl (fun z => absurd z (nI_neg1 (by omega))) (fun _ => ?_)
  refine am_B.run (hp := false) (sp := []) 200 rfl ?_
  refine am_B.get rfl rfl rfl (by first | assumption | exact gs_s (by first | assumption | exact gs_s (by first | assumption | exact gs_s (by assumption) | (refine gs_n (by decide) ?_; assumption)) | (refine gs_n (by decide) ?_; first | assumption | exact gs_s (by assumption) | (refine gs_n (by decide) ?_; assumption))) | (refine gs_n (by decide) ?_; first | assumption | exact gs_s (by first | assumption | exact gs_s (by assumption) | (refine gs_n (by decide) ?_; assumption)) | (refine gs_n (by decide) ?_; first | assumption | exact gs_s (by assumption) | (refine gs_n (by decide) ?_; assumption)))) rfl rfl ?_
  refine am_B.run (hp := false) (sp := []) 200 rfl ?_
  refine am_B.get rfl rfl rfl (by first | assumption | exact gs_s (by first | assumption | exact gs_s (by first | assumption | exact gs_s (by assumption) | (refine gs_n (by decide) ?_; assumption)) | (refine gs_n (by decide) ?_; first | assumption | exact gs_s (by assumption) | (refine gs_n (by decide) ?_; assumption))) | (refine gs_n (by decide) ?_; first | assumption | exact gs_s (by first | assumption | exact gs_s (by assumption) | (refine gs_n (by decide) ?_; assumption)) | (refine gs_n (by decide) ?_; first | assumption | exact gs_s (by assumption) | (refine gs_n (by decide) ?_; assumption)))) rfl rfl ?_
  refine am_B.run (hp := false) (sp := []) 200 rfl ?_
  refine am_B.ast rfl hR2 (vp_n (show l < 200 by omega) rfl) rfl ?_
  rw [nI_clamp (show l < 2 ^ 31 by omega), gs_ss]
  obtain ⟨h2, h3, h9, h12, h13, h14, h16⟩ := W.set (Or.inl hro) (ia 200 (upd (fun j => if j < 200 then nI 1073741824 else nI (g' j)) l (nI 0)))
  have h15' := gs_n (a := ro) (c := ia 200 (upd (fun j => if j < 200 then nI 1073741824 else nI (g' j)) l (nI 0))) (by omega) h15
  have hR2 := gs_s (c := ia 200 (upd (fun j => if j < 200 then nI 1073741824 else nI (g' j)) l (nI 0))) hR
  have eb : upd (fun j => if j < 200 then nI 1073741824 else nI (g' j)) l (nI 0) = fun i => nI (if i = l then 0 else if i < 200 then 1073741824 else g' i) := by
    funext i
    unfold upd
    by_cases q : i = l
    · simp [q]
    · by_cases q2 : i < 200 <;> simp [q, q2]
  rw [eb] at h2 h3 h9 h12 h13 h14 h16 h15' hR2 ⊢
  refine am_B.run (hp := false) (sp := []) 200 rfl ?_
  refine am_B.get rfl rfl rfl (by first | assumption | exact gs_s (by first | assumption | exact gs_s (by first | assumption | exact gs_s (by assumption) | (refine gs_n (by decide) ?_; assumption)) | (refine gs_n (by decide) ?_; first | assumption | exact gs_s (by assumption) | (refine gs_n (by decide) ?_; assumption))) | (refine gs_n (by decide) ?_; first | assumption | exact gs_s (by first | assumption | exact gs_s (by assumption) | (refine gs_n (by decide) ?_; assumption)) | (refine gs_n (by decide) ?_; first | assumption | exact gs_s (by assumption) | (refine gs_n (by decide) ?_; assumption)))) rfl rfl ?_
  refine am_B.run (hp := false) (sp := []) 200 rfl ?_
  refine am_B.get rfl rfl rfl (by first | assumption | exact gs_s (by first | assumption | exact gs_s (by first | assumption | exact gs_s (by assumption) | (refine gs_n (by decide) ?_; assumption)) | (refine gs_n (by decide) ?_; first | assumption | exact gs_s (by assumption) | (refine gs_n (by decide) ?_; assumption))) | (refine gs_n (by decide) ?_; first | assumption | exact gs_s (by first | assumption | exact gs_s (by assumption) | (refine gs_n (by decide) ?_; assumption)) | (refine gs_n (by decide) ?_; first | assumption | exact gs_s (by assumption) | (refine gs_n (by decide) ?_; assumption)))) rfl rfl ?_
  refine am_B.run (hp := false) (sp := []) 200 rfl ?_
  refine am_B.callV (ci := 2) (n := 2) (as := [.ref ro, .ref 15]) rfl rfl rfl (ct_MG_relax _ ro n T ex (nI l) pc 15 gf w _ (by omega) (by omega) (by omega) hn hT hwf hw hw1 (fun i hi => ?_) h2 h9 h12 h15' hR2) rfl rfl (by exact Nat.le_of_ble_eq_true rfl) rfl h9 rfl rfl (fun v h' q => ?_)
  · show (if i = l then 0 else if i < 200 then 1073741824 else g' i) ≤ _
    rw [if_pos (show i < 200 by omega)]
    split <;> omega
  · obtain ⟨r, rfl, rfl, q1, q2⟩ := q
    rw [gs_ss]
    refine am_B.run (hp := false) (sp := []) 200 rfl ?_
    refine am_B.vret rfl rfl rfl ⟨rfl, r, rfl, q1.base fun i hi => ?_⟩
    show (if i = l then 0 else if i < 200 then 1073741824 else g' i) = endB l i
    rw [if_pos (show i < 200 by omega)]
    rfl
set_option maxRecDepth 100000 in
set_option maxHeartbeats 4000000 in
theorem ct_PF_traceWeight (h : am_H) (l : Nat) (lc : Nat → Nat) (hl : l < 6) (h13 : h[13]? = some (ia 6 fun l => nI (lc l))) (h14 : h[14]? = some c_PF) : am_Ct am_G0 m_PF_traceWeight 0 0 0 [.ref 14, .int (nI l)] h (fun v h' => h' = h ∧ v = some (.int (nI (lc l * 4096 + 1)))) := by
  refine am_Ct.of (E := E_PF_traceWeight) e_PF_traceWeight (by decide) (Nat.le_of_ble_eq_true rfl) ?_
  refine am_B.run (hp := false) (sp := []) 200 rfl ?_
  refine am_B.get rfl rfl rfl (by first | assumption | exact gs_s (by first | assumption | exact gs_s (by first | assumption | exact gs_s (by assumption) | (refine gs_n (by decide) ?_; assumption)) | (refine gs_n (by decide) ?_; first | assumption | exact gs_s (by assumption) | (refine gs_n (by decide) ?_; assumption))) | (refine gs_n (by decide) ?_; first | assumption | exact gs_s (by first | assumption | exact gs_s (by assumption) | (refine gs_n (by decide) ?_; assumption)) | (refine gs_n (by decide) ?_; first | assumption | exact gs_s (by assumption) | (refine gs_n (by decide) ?_; assumption)))) rfl rfl ?_
  refine am_B.run (hp := false) (sp := []) 200 rfl ?_
  refine am_B.ald rfl h13 (vp_n hl rfl) rfl ?_
  rw [nI_clamp (show l < 2 ^ 31 by omega)]
  refine am_B.run (hp := false) (sp := []) 200 rfl ?_
  have e : nI (lc l) * nI 4096 = nI (lc l * 4096) := (Int32.ofNat_mul _ _).symm
  rw [e, nI_add]
  exact am_B.iret rfl rfl rfl ⟨rfl, rfl⟩
