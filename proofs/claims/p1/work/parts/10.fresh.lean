/-! A FRESH ALIGNER: what its methods do at once after its making -/
theorem vp_n {k n : Nat} (h : k < n) (hn : Nat.ble (n + 1) 2147483648 = true) : vp_in (nI k) n := vp_in_nI h (Nat.le_of_ble_eq_true hn)
theorem nI_neg1 {k : Nat} (h : k < 2 ^ 31) : ¬ nI k = -1 := by
  intro e
  have h1 := nI_toInt h
  rw [e] at h1
  have h2 : ((-1 : Int32)).toInt = -1 := rfl
  rw [h2] at h1
  omega
def n4 (h : am_H) (a b c d : am_C) : am_H := (((h.set 9 a).set 10 b).set 11 c).set 12 d
theorem n4_s9 {h : am_H} {a b c d x : am_C} : (n4 h a b c d).set 9 x = n4 h x b c d := by
  unfold n4
  rw [List.set_comm _ _ (by decide : (12 : Nat) ≠ 9), List.set_comm _ _ (by decide : (11 : Nat) ≠ 9), List.set_comm _ _ (by decide : (10 : Nat) ≠ 9), List.set_set]
theorem n4_s10 {h : am_H} {a b c d x : am_C} : (n4 h a b c d).set 10 x = n4 h a x c d := by
  unfold n4
  rw [List.set_comm _ _ (by decide : (12 : Nat) ≠ 10), List.set_comm _ _ (by decide : (11 : Nat) ≠ 10), List.set_set]
theorem n4_s11 {h : am_H} {a b c d x : am_C} : (n4 h a b c d).set 11 x = n4 h a b x d := by
  unfold n4
  rw [List.set_comm _ _ (by decide : (12 : Nat) ≠ 11), List.set_set]
theorem n4_s12 {h : am_H} {a b c d x : am_C} : (n4 h a b c d).set 12 x = n4 h a b c x := by
  unfold n4
  rw [List.set_set]
theorem n4_9 {h : am_H} {a b c d : am_C} (hl : 12 < h.length) : (n4 h a b c d)[9]? = some a := by
  unfold n4
  rw [List.getElem?_set_ne (by decide), List.getElem?_set_ne (by decide), List.getElem?_set_ne (by decide), List.getElem?_set_self (by omega)]
theorem n4_10 {h : am_H} {a b c d : am_C} (hl : 12 < h.length) : (n4 h a b c d)[10]? = some b := by
  unfold n4
  rw [List.getElem?_set_ne (by decide), List.getElem?_set_ne (by decide), List.getElem?_set_self (by rw [List.length_set]; omega)]
theorem n4_11 {h : am_H} {a b c d : am_C} (hl : 12 < h.length) : (n4 h a b c d)[11]? = some c := by
  unfold n4
  rw [List.getElem?_set_ne (by decide), List.getElem?_set_self (by rw [List.length_set, List.length_set]; omega)]
theorem n4_12 {h : am_H} {a b c d : am_C} (hl : 12 < h.length) : (n4 h a b c d)[12]? = some d := by
  unfold n4
  rw [List.getElem?_set_self (by rw [List.length_set, List.length_set, List.length_set]; omega)]
theorem n4_o {h : am_H} {a b c d : am_C} {k : Nat} (h9 : 9 ≠ k) (h10 : 10 ≠ k) (h11 : 11 ≠ k) (h12 : 12 ≠ k) : (n4 h a b c d)[k]? = h[k]? := by
  unfold n4
  rw [List.getElem?_set_ne h12, List.getElem?_set_ne h11, List.getElem?_set_ne h10, List.getElem?_set_ne h9]
theorem n4_id {h : am_H} {a b c d : am_C} (h9 : h[9]? = some a) (h10 : h[10]? = some b) (h11 : h[11]? = some c) (h12 : h[12]? = some d) : n4 h a b c d = h := by
  unfold n4
  rw [gs_id h9, gs_id h10, gs_id h11, gs_id h12]
theorem n4_n4 {h : am_H} {a b c d a' b' c' d' : am_C} : n4 (n4 h a b c d) a' b' c' d' = n4 h a' b' c' d' := by
  show ((((n4 h a b c d).set 9 a').set 10 b').set 11 c').set 12 d' = _
  rw [n4_s9, n4_s10, n4_s11, n4_s12]
theorem ts_get {j : Nat} (hj : j < 8) : am_aget .aaload 4 (8, .inr (.inr (.inr (.inr ts_)))) (nI j).toNatClampNeg = some (.ref (28 + 3 * j)) := by
  rw [nI_clamp (by omega)]
  show some (am_rv ts_ j) = _
  unfold am_rv ts_
  rw [if_pos hj]
theorem nI_prd (j : Nat) : nI (j + 1) - nI 1 = nI j := nI_pred j
theorem upd_s {g : Nat → Int32} {i : Nat} {v : Int32} : upd g i v i = v := pk_us
/-- fresh -/
def xF (h : am_H) : Prop := 69 ≤ h.length ∧ h[1]? = some (c_TA (nI 0) (nI 0)) ∧ h[2]? = some (c_NT (nI 0) (nI 0)) ∧ h[3]? = some (z_ 10) ∧ h[4]? = some (z_ 10) ∧ h[7]? = some (z_ 8) ∧ h[8]? = some (z_ 8) ∧ h[9]? = some (c_MG (nI 0) 0 0) ∧ h[10]? = some (z_ 200) ∧ h[11]? = some (z_ 200) ∧ h[12]? = some (z_ 2000) ∧
  h[13]? = some (ia 6 (fun j => if j < 6 then nI 1 else 0)) ∧ h[14]? = some c_PF ∧ h[15]? = some (z_ 10) ∧ h[16]? = some (ra 5 9 rs_) ∧ h[17]? = some (z_ 200) ∧ h[26]? = some (z_ 8) ∧ h[27]? = some (ra 4 8 ts_) ∧ h[52]? = some (z_ 200) ∧ (∀ i, i < 8 → h[28 + 3 * i]? = some (c_TR i 0 0 (nI 0) 0 0 0 (30 + 3 * i))) ∧ h[29]? = some (z_ 8)
/-- explored, fresh -/
def hE (h : am_H) : am_H := n4 h (c_MG (nI 1) (nI 1) (nI 0)) (ia 200 (upd (fun _ => 0) 0 (nI 0))) (ia 200 (upd (fun _ => 0) 0 (nI 0))) (z_ 2000)
/-- what lies behind the aligner's own cells is as it was -/
def xk (h h' : am_H) : Prop := h'.length = h.length ∧ ∀ a, (a = 0 ∨ 53 ≤ a) → h'[a]? = h[a]?
theorem xk.rf (h : am_H) : xk h h := ⟨rfl, fun _ _ => rfl⟩
theorem xk.set {h h' : am_H} (k : xk h h') {a : Nat} (ha : 0 < a ∧ a < 53) (x : am_C) : xk h (h'.set a x) := ⟨by rw [List.length_set]; exact k.1, fun b hb => by rw [List.getElem?_set_ne (by omega)]; exact k.2 b hb⟩
theorem xk_hE (h : am_H) : xk h (hE h) := ⟨by unfold hE n4; rw [List.length_set, List.length_set, List.length_set, List.length_set], fun b hb => n4_o (by omega) (by omega) (by omega) (by omega)⟩
set_option maxRecDepth 100000 in
set_option maxHeartbeats 4000000 in
theorem xt_codeOf (f : Nat) (h : am_H) (a : Nat) (tc : Int32) (g : Nat → Int32) (h2 : h[2]? = some (c_NT (nI 0) tc)) : am_Ct am_G0 m_NT_codeOf f 0 0 [.ref 2, .ref a] h (fun v h' => h' = h ∧ v = some (.int (nI 0))) := by
  refine am_Ct.of (E := E_NT_codeOf) e_NT_codeOf (by decide) (Nat.le_of_ble_eq_true rfl) ?_
  refine am_B.run (hp := false) (sp := []) 200 rfl ?_
  refine am_B.get rfl rfl rfl (by first | assumption | exact gs_s (by first | assumption | exact gs_s (by first | assumption | exact gs_s (by assumption) | (refine gs_n (by decide) ?_; assumption)) | (refine gs_n (by decide) ?_; first | assumption | exact gs_s (by assumption) | (refine gs_n (by decide) ?_; assumption))) | (refine gs_n (by decide) ?_; first | assumption | exact gs_s (by first | assumption | exact gs_s (by assumption) | (refine gs_n (by decide) ?_; assumption)) | (refine gs_n (by decide) ?_; first | assumption | exact gs_s (by assumption) | (refine gs_n (by decide) ?_; assumption)))) rfl rfl ?_
  refine am_B.icmp_ge rfl rfl (fun _ => ?_) (fun q => absurd (by decide) q)
  refine am_B.run (hp := false) (sp := []) 200 rfl ?_
  exact am_B.iret rfl rfl rfl ⟨rfl, rfl⟩
set_option maxRecDepth 100000 in
set_option maxHeartbeats 4000000 in
theorem xt_numberOf (f : Nat) (h : am_H) (ex la : Int32) (g : Nat → Int32) (hg : g 0 = nI 0) (h9 : h[9]? = some (c_MG ex (nI 1) la)) (h10 : h[10]? = some (ia 200 g)) : am_Ct am_G0 m_MG_numberOf f 0 0 [.ref 9, .int (nI 0)] h (fun v h' => h' = h ∧ v = some (.int (nI 0))) := by
  refine am_Ct.of (E := E_MG_numberOf) e_MG_numberOf (by decide) (Nat.le_of_ble_eq_true rfl) ?_
  refine am_B.run (hp := false) (sp := []) 200 rfl ?_
  refine am_B.get rfl rfl rfl (by first | assumption | exact gs_s (by first | assumption | exact gs_s (by first | assumption | exact gs_s (by assumption) | (refine gs_n (by decide) ?_; assumption)) | (refine gs_n (by decide) ?_; first | assumption | exact gs_s (by assumption) | (refine gs_n (by decide) ?_; assumption))) | (refine gs_n (by decide) ?_; first | assumption | exact gs_s (by first | assumption | exact gs_s (by assumption) | (refine gs_n (by decide) ?_; assumption)) | (refine gs_n (by decide) ?_; first | assumption | exact gs_s (by assumption) | (refine gs_n (by decide) ?_; assumption)))) rfl rfl ?_
  refine am_B.icmp_ge rfl rfl (fun q => absurd q (by decide)) (fun _ => ?_)
  refine am_B.run (hp := false) (sp := []) 200 rfl ?_
  refine am_B.get rfl rfl rfl (by first | assumption | exact gs_s (by first | assumption | exact gs_s (by first | assumption | exact gs_s (by assumption) | (refine gs_n (by decide) ?_; assumption)) | (refine gs_n (by decide) ?_; first | assumption | exact gs_s (by assumption) | (refine gs_n (by decide) ?_; assumption))) | (refine gs_n (by decide) ?_; first | assumption | exact gs_s (by first | assumption | exact gs_s (by assumption) | (refine gs_n (by decide) ?_; assumption)) | (refine gs_n (by decide) ?_; first | assumption | exact gs_s (by assumption) | (refine gs_n (by decide) ?_; assumption)))) rfl rfl ?_
  refine am_B.run (hp := false) (sp := []) 200 rfl ?_
  refine am_B.ald rfl h10 (vp_n (show 0 < 200 by decide) rfl) rfl ?_
  rw [nI_clamp (show 0 < 2 ^ 31 by decide), hg]
  refine am_B.run (hp := false) (sp := []) 200 rfl ?_
  refine am_B.icmp_ne rfl rfl (fun q => absurd rfl q) (fun _ => ?_)
  refine am_B.run (hp := false) (sp := []) 200 rfl ?_
  exact am_B.iret rfl rfl rfl ⟨rfl, rfl⟩
set_option maxRecDepth 100000 in
set_option maxHeartbeats 4000000 in
theorem xt_followAll (f : Nat) (h : am_H) (pc ex sz la : Int32) (g : Nat → Int32) (h2 : h[2]? = some (c_NT pc (nI 0))) (h9 : h[9]? = some (c_MG ex sz la)) (h11 : h[11]? = some (ia 200 g)) : am_Ct am_G0 m_MG_followAll f 0 0 [.ref 9, .int (nI 0)] h (fun v h' => h' = h.set 11 (ia 200 (upd g 0 (nI 0))) ∧ v = some (.int (nI 1))) := by
  refine am_Ct.of (E := E_MG_followAll) e_MG_followAll (by decide) (Nat.le_of_ble_eq_true rfl) ?_
  refine am_B.run (hp := false) (sp := []) 200 rfl ?_
  refine am_B.get rfl rfl rfl (by first | assumption | exact gs_s (by first | assumption | exact gs_s (by first | assumption | exact gs_s (by assumption) | (refine gs_n (by decide) ?_; assumption)) | (refine gs_n (by decide) ?_; first | assumption | exact gs_s (by assumption) | (refine gs_n (by decide) ?_; assumption))) | (refine gs_n (by decide) ?_; first | assumption | exact gs_s (by first | assumption | exact gs_s (by assumption) | (refine gs_n (by decide) ?_; assumption)) | (refine gs_n (by decide) ?_; first | assumption | exact gs_s (by assumption) | (refine gs_n (by decide) ?_; assumption)))) rfl rfl ?_
  refine am_B.run (hp := false) (sp := []) 200 rfl ?_
  refine am_B.ast rfl h11 (vp_n (show 0 < 200 by decide) rfl) rfl ?_
  rw [nI_clamp (show 0 < 2 ^ 31 by decide)]
  refine am_B.run (hp := false) (sp := []) 200 rfl ?_
  refine am_B.get rfl rfl rfl (by first | assumption | exact gs_s (by first | assumption | exact gs_s (by first | assumption | exact gs_s (by assumption) | (refine gs_n (by decide) ?_; assumption)) | (refine gs_n (by decide) ?_; first | assumption | exact gs_s (by assumption) | (refine gs_n (by decide) ?_; assumption))) | (refine gs_n (by decide) ?_; first | assumption | exact gs_s (by first | assumption | exact gs_s (by assumption) | (refine gs_n (by decide) ?_; assumption)) | (refine gs_n (by decide) ?_; first | assumption | exact gs_s (by assumption) | (refine gs_n (by decide) ?_; assumption)))) rfl rfl ?_
  refine am_B.run (hp := false) (sp := []) 200 rfl ?_
  refine am_B.get rfl rfl rfl (by first | assumption | exact gs_s (by first | assumption | exact gs_s (by first | assumption | exact gs_s (by assumption) | (refine gs_n (by decide) ?_; assumption)) | (refine gs_n (by decide) ?_; first | assumption | exact gs_s (by assumption) | (refine gs_n (by decide) ?_; assumption))) | (refine gs_n (by decide) ?_; first | assumption | exact gs_s (by first | assumption | exact gs_s (by assumption) | (refine gs_n (by decide) ?_; assumption)) | (refine gs_n (by decide) ?_; first | assumption | exact gs_s (by assumption) | (refine gs_n (by decide) ?_; assumption)))) rfl rfl ?_
  refine am_B.icmp_ge rfl rfl (fun _ => ?_) (fun q => absurd (by decide) q)
  refine am_B.run (hp := false) (sp := []) 200 rfl ?_
  exact am_B.zret rfl rfl rfl rfl ⟨rfl, rfl⟩
set_option maxRecDepth 100000 in
set_option maxHeartbeats 4000000 in
theorem xt_explore (h : am_H) (hl : 12 < h.length) (h2 : h[2]? = some (c_NT (nI 0) (nI 0))) (h7 : h[7]? = some (z_ 8)) (h8 : h[8]? = some (z_ 8)) : am_Ct am_G0 m_MG_explore 1 0 0 [.ref 9] (n4 h (c_MG (nI 0) 0 0) (z_ 200) (z_ 200) (z_ 2000)) (fun v h' => v = none ∧ h' = hE h) := by
  refine am_Ct.of (E := E_MG_explore) e_MG_explore (by decide) (Nat.le_of_ble_eq_true rfl) ?_
  have o : ∀ {a b c d : am_C} {k : Nat} {x : am_C}, k < 9 → h[k]? = some x → (n4 h a b c d)[k]? = some x := fun hk hx => (n4_o (by omega) (by omega) (by omega) (by omega)).trans hx
  refine am_B.run (hp := false) (sp := []) 200 rfl ?_
  refine am_B.get rfl rfl rfl (n4_9 hl) rfl rfl ?_
  refine am_B.run (hp := false) (sp := []) 200 rfl ?_
  refine am_B.if_eq rfl rfl (fun _ => ?_) (fun z => absurd rfl z)
  refine am_B.run (hp := false) (sp := []) 200 rfl ?_
  refine am_B.put rfl rfl rfl (n4_9 hl) rfl (Nat.le_of_ble_eq_true rfl) rfl (fun q => by cases q) ?_
  rw [n4_s9]
  refine am_B.run (hp := false) (sp := []) 200 rfl ?_
  refine am_B.put rfl rfl rfl (n4_9 hl) rfl (Nat.le_of_ble_eq_true rfl) rfl (fun q => by cases q) ?_
  rw [n4_s9]
  refine am_B.run (hp := false) (sp := []) 200 rfl ?_
  refine am_B.get rfl rfl rfl (n4_9 hl) rfl rfl ?_
  refine am_B.run (hp := false) (sp := []) 200 rfl ?_
  refine am_B.get rfl rfl rfl (n4_9 hl) rfl rfl ?_
  refine am_B.run (hp := false) (sp := []) 200 rfl ?_
  refine am_B.get rfl rfl rfl (n4_9 hl) rfl rfl ?_
  refine am_B.get rfl rfl rfl (o (by decide) h2) rfl rfl ?_
  refine am_B.callV (ci := 1) (n := 1) (as := [.ref 7]) rfl rfl rfl (xt_codeOf 0 _ 7 (nI 0) (fun _ => 0) (o (by decide) h2)) rfl rfl (by exact Nat.le_of_ble_eq_true rfl) rfl (o (by decide) h2) rfl rfl (fun v h' z => ?_)
  obtain ⟨rfl, rfl⟩ := z
  refine am_B.ast rfl (n4_10 hl) (vp_n (show 0 < 200 by decide) rfl) rfl ?_
  rw [nI_clamp (show 0 < 2 ^ 31 by decide), n4_s10]
  refine am_B.run (hp := false) (sp := []) 200 rfl ?_
  refine am_B.put rfl rfl rfl (n4_9 hl) rfl (Nat.le_of_ble_eq_true rfl) rfl (fun q => by cases q) ?_
  rw [n4_s9]
  refine am_B.run (hp := false) (sp := []) 200 rfl ?_
  refine am_B.icmp_ge rfl rfl (fun q => absurd q (by decide)) (fun _ => ?_)
  refine am_B.run (hp := false) (sp := []) 200 rfl ?_
  refine am_B.get rfl rfl rfl (n4_9 hl) rfl rfl ?_
  refine am_B.icmp_ge rfl rfl (fun q => absurd q (by decide)) (fun _ => ?_)
  refine am_B.run (hp := false) (sp := []) 200 rfl ?_
  refine am_B.callV (ci := 2) (n := 1) (as := [.int (nI 0)]) rfl rfl rfl (xt_followAll 0 _ (nI 0) (nI 1) (nI 1) (-1) (fun _ => 0) (o (by decide) h2) (n4_9 hl) (n4_11 hl)) rfl rfl (by exact Nat.le_of_ble_eq_true rfl) rfl (n4_9 hl) rfl rfl (fun v h' z => ?_)
  obtain ⟨rfl, rfl⟩ := z
  rw [n4_s11]
  refine am_B.if_ne rfl rfl (fun _ => ?_) (fun q => absurd q (by decide))
  refine am_B.run (hp := false) (sp := []) 200 rfl ?_
  refine am_B.icmp_ge rfl rfl (fun q => absurd q (by decide)) (fun _ => ?_)
  refine am_B.run (hp := false) (sp := []) 200 rfl ?_
  refine am_B.get rfl rfl rfl (n4_9 hl) rfl rfl ?_
  refine am_B.icmp_ge rfl rfl (fun _ => ?_) (fun q => absurd (by decide) q)
  refine am_B.run (hp := false) (sp := []) 200 rfl ?_
  refine am_B.get rfl rfl rfl (n4_9 hl) rfl rfl ?_
  refine am_B.run (hp := false) (sp := []) 200 rfl ?_
  refine am_B.get rfl rfl rfl (n4_9 hl) rfl rfl ?_
  refine am_B.get rfl rfl rfl (o (by decide) h2) rfl rfl ?_
  refine am_B.callV (ci := 1) (n := 1) (as := [.ref 8]) rfl rfl rfl (xt_codeOf 0 _ 8 (nI 0) (fun _ => 0) (o (by decide) h2)) rfl rfl (by exact Nat.le_of_ble_eq_true rfl) rfl (o (by decide) h2) rfl rfl (fun v h' z => ?_)
  obtain ⟨rfl, rfl⟩ := z
  refine am_B.callV (ci := 2) (n := 1) (as := [.int (nI 0)]) rfl rfl rfl (xt_numberOf 0 _ (nI 1) (-1) _ upd_s (n4_9 hl) (n4_10 hl)) rfl rfl (by exact Nat.le_of_ble_eq_true rfl) rfl (n4_9 hl) rfl rfl (fun v h' z => ?_)
  obtain ⟨rfl, rfl⟩ := z
  refine am_B.put rfl rfl rfl (n4_9 hl) rfl (Nat.le_of_ble_eq_true rfl) rfl (fun q => by cases q) ?_
  rw [n4_s9]
  exact am_B.vret rfl rfl rfl ⟨rfl, rfl⟩
theorem xF_n4 {h : am_H} (X : xF h) : h = n4 h (c_MG (nI 0) 0 0) (z_ 200) (z_ 200) (z_ 2000) := (n4_id X.2.2.2.2.2.2.2.1 X.2.2.2.2.2.2.2.2.1 X.2.2.2.2.2.2.2.2.2.1 X.2.2.2.2.2.2.2.2.2.2.1).symm
theorem xF.explore {h : am_H} (X : xF h) : am_Ct am_G0 m_MG_explore 1 0 0 [.ref 9] h (fun v h' => v = none ∧ h' = hE h) := by
  have := xt_explore h (by have := X.1; omega) X.2.2.1 X.2.2.2.2.2.1 X.2.2.2.2.2.2.1
  rwa [← xF_n4 X] at this
