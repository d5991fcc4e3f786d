/-! ROOM for a path, no alignment -/
theorem ga_o {h : am_H} {x c : am_C} {a : Nat} (ha : h[a]? = some x) : (h ++ [c])[a]? = some x := by
  rw [List.getElem?_append_left (List.getElem?_eq_some_iff.mp ha).1]
  exact ha
theorem ga_n (h : am_H) (c : am_C) : (h ++ [c])[h.length]? = some c := by
  rw [List.getElem?_append_right (Nat.le_refl _), Nat.sub_self]
  rfl
theorem am_B.rsq {E : am_E} {R : Room} {Z : am_Z} {pc : Nat} {lo : am_L} {st : List Value} {h : am_H} {rc rs rs' : Nat} (e : rs = rs') (k : am_B E R Z pc lo st h rc rs') : am_B E R Z pc lo st h rc rs := e ▸ k
set_option maxRecDepth 100000 in
set_option maxHeartbeats 4000000 in
theorem ct_TR_setNoAlignment (h : am_H) (q : Nat) (sz tm al lf wf mf : Int32) (pth : Nat) (hTR : h[28 + 3 * q]? = some (c_TR q sz tm al lf wf mf pth)) : am_Ct am_G0 m_TR_setNoAlignment 0 0 0 [.ref (28 + 3 * q)] h (fun v h' => v = none ∧ h' = h.set (28 + 3 * q) (c_TR q sz tm al (-1) (-1) (-1) pth)) := by
  refine am_Ct.of (E := E_TR_setNoAlignment) e_TR_setNoAlignment (by decide) (Nat.le_of_ble_eq_true rfl) ?_
  refine am_B.run (hp := false) (sp := []) 200 rfl ?_
  refine am_B.put rfl rfl rfl hTR rfl (Nat.le_of_ble_eq_true rfl) rfl (fun q => by cases q) ?_
  refine am_B.run (hp := false) (sp := []) 200 rfl ?_
  refine am_B.put rfl rfl rfl (gs_s hTR) rfl (Nat.le_of_ble_eq_true rfl) rfl (fun q => by cases q) ?_
  rw [gs_ss]
  refine am_B.run (hp := false) (sp := []) 200 rfl ?_
  refine am_B.put rfl rfl rfl (gs_s hTR) rfl (Nat.le_of_ble_eq_true rfl) rfl (fun q => by cases q) ?_
  rw [gs_ss]
  refine am_B.run (hp := false) (sp := []) 200 rfl ?_
  exact am_B.vret rfl rfl rfl ⟨rfl, rfl⟩
set_option maxRecDepth 100000 in
set_option maxHeartbeats 4000000 in
theorem ct_TR_makeRoom (h : am_H) (q k P : Nat) (sz tm al lf wf mf : Int32) (pth : Nat) (g : Nat → Int32) (hTR : h[28 + 3 * q]? = some (c_TR q sz tm al lf wf mf pth)) (hPA : h[pth]? = some (ia P g)) (hP : P ≤ 3600) (hk : k ≤ 1800) :
    am_Ct am_G0 m_TR_makeRoom 1 1 3600 [.ref (28 + 3 * q), .int (nI k)] h (fun v h' => v = none ∧ ((k ≤ P ∧ h' = h) ∨ ∃ P', k ≤ P' ∧ P' ≤ 3600 ∧ h' = (h ++ [ia P' fun _ => 0]).set (28 + 3 * q) (c_TR q sz tm al lf wf mf h.length))) := by
  refine am_Ct.of (E := E_TR_makeRoom) e_TR_makeRoom (by decide) (Nat.le_of_ble_eq_true rfl) ?_
  refine am_B.run (hp := false) (sp := []) 200 rfl ?_
  refine am_B.get rfl rfl rfl (by first | assumption | exact gs_s (by first | assumption | exact gs_s (by first | assumption | exact gs_s (by assumption) | (refine gs_n (by decide) ?_; assumption)) | (refine gs_n (by decide) ?_; first | assumption | exact gs_s (by assumption) | (refine gs_n (by decide) ?_; assumption))) | (refine gs_n (by decide) ?_; first | assumption | exact gs_s (by first | assumption | exact gs_s (by assumption) | (refine gs_n (by decide) ?_; assumption)) | (refine gs_n (by decide) ?_; first | assumption | exact gs_s (by assumption) | (refine gs_n (by decide) ?_; assumption)))) rfl rfl ?_
  refine am_B.run (hp := false) (sp := []) 200 rfl ?_
  refine am_B.alen rfl rfl hPA (Or.inl ⟨by decide, rfl⟩) ?_
  refine am_B.run (hp := false) (sp := []) 200 rfl ?_
  refine am_B.icmp_le rfl rfl (fun z => ?_) (fun z => ?_)
  · have := (nI_leI (a := k) (b := P) (by omega) (by omega)).mp z
    refine am_B.run (hp := false) (sp := []) 200 rfl ?_
    exact am_B.vret rfl rfl rfl ⟨rfl, Or.inl ⟨this, rfl⟩⟩
  · have hlt : P < k := by
      rcases Nat.lt_or_ge P k with q1 | q1
      · exact q1
      · exact absurd ((nI_leI (a := k) (b := P) (by omega) (by omega)).mpr q1) z
    refine am_B.run (hp := false) (sp := []) 200 rfl ?_
    refine am_B.get rfl rfl rfl (by first | assumption | exact gs_s (by first | assumption | exact gs_s (by first | assumption | exact gs_s (by assumption) | (refine gs_n (by decide) ?_; assumption)) | (refine gs_n (by decide) ?_; first | assumption | exact gs_s (by assumption) | (refine gs_n (by decide) ?_; assumption))) | (refine gs_n (by decide) ?_; first | assumption | exact gs_s (by first | assumption | exact gs_s (by assumption) | (refine gs_n (by decide) ?_; assumption)) | (refine gs_n (by decide) ?_; first | assumption | exact gs_s (by assumption) | (refine gs_n (by decide) ?_; assumption)))) rfl rfl ?_
    refine am_B.run (hp := false) (sp := []) 200 rfl ?_
    refine am_B.alen rfl rfl hPA (Or.inl ⟨by decide, rfl⟩) ?_
    refine am_B.run (hp := false) (sp := []) 200 rfl ?_
    have e : nI 2 * nI P = nI (2 * P) := (Int32.ofNat_mul _ _).symm
    rw [e]
    refine am_B.callS (ci := 0) (n := 2) (as := [.int (nI k), .int (nI (2 * P))]) rfl rfl rfl (ct_MA_max _ k (2 * P) (by omega) (by omega)) rfl rfl (by exact Nat.le_of_ble_eq_true rfl) rfl rfl rfl (fun v h' z => ?_)
    obtain ⟨rfl, rfl⟩ := z
    have hm1 : k ≤ max k (2 * P) := Nat.le_max_left _ _
    have hm2 : max k (2 * P) ≤ 3600 := Nat.max_le.mpr ⟨by omega, by omega⟩
    obtain ⟨M, hM⟩ : ∃ M, M = max k (2 * P) := ⟨_, rfl⟩
    rw [← hM] at hm1 hm2 ⊢
    refine am_B.run (hp := false) (sp := []) 200 rfl ?_
    refine am_B.rsq (show 3600 = (3600 - M) + M by omega) ?_
    refine am_B.newI (n := M) rfl rfl aw_int rfl (by omega) ?_
    refine am_B.run (hp := false) (sp := []) 200 rfl ?_
    refine am_B.put rfl rfl rfl (ga_o hTR) rfl (Nat.le_of_ble_eq_true rfl) rfl (fun q => by cases q) ?_
    refine am_B.run (hp := false) (sp := []) 200 rfl ?_
    exact am_B.vret rfl rfl rfl ⟨rfl, Or.inr ⟨M, hm1, hm2, rfl⟩⟩
