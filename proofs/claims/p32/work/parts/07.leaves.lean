/-! LEAVES: small static methods, rows filled -/
theorem gs_s {h : am_H} {a : Nat} {x c : am_C} (ha : h[a]? = some x) : (h.set a c)[a]? = some c := List.getElem?_set_self (List.getElem?_eq_some_iff.mp ha).1
theorem gs_n {h : am_H} {a b : Nat} {x c : am_C} (hne : a ≠ b) (hb : h[b]? = some x) : (h.set a c)[b]? = some x := (List.getElem?_set_ne hne).trans hb
theorem gs_ss (h : am_H) (a : Nat) (c d : am_C) : (h.set a c).set a d = h.set a d := List.set_set ..
theorem gs_id {h : am_H} {a : Nat} {x : am_C} (ha : h[a]? = some x) : h.set a x = h := by
  apply List.ext_getElem?
  intro i
  by_cases e : a = i
  · subst e; rw [gs_s ha, ha]
  · rw [List.getElem?_set_ne e]
theorem vp_nI {k n : Nat} (h : k < n) (hn : n < 2 ^ 31) : vp_in (nI k) n := vp_in_nI h hn
set_option maxRecDepth 100000 in
set_option maxHeartbeats 4000000 in
theorem ct_TA_isIn (f : Nat) (h : am_H) (s k : Int32) : am_Ct am_G0 m_TA_isIn f 0 0 [.int s, .int k] h (fun v h' => h' = h ∧ v = some (.int (if (s >>> (k &&& 31)) &&& nI 1 = 0 then nI 0 else nI 1))) := by
  refine am_Ct.of (E := E_TA_isIn) e_TA_isIn (by decide) (Nat.le_of_ble_eq_true rfl) ?_
  refine am_B.run (hp := false) (sp := []) 200 rfl ?_
  refine am_B.if_eq rfl rfl (fun hc => ?_) (fun hc => ?_)
  · refine am_B.run (hp := false) (sp := []) 200 rfl ?_
    exact am_B.zret rfl rfl rfl rfl ⟨rfl, by rw [if_pos hc]⟩
  · refine am_B.run (hp := false) (sp := []) 200 rfl ?_
    exact am_B.zret rfl rfl rfl rfl ⟨rfl, by rw [if_neg hc]⟩
set_option maxRecDepth 100000 in
set_option maxHeartbeats 4000000 in
theorem ct_TA_tokensIn (f : Nat) (h : am_H) (s k : Int32) : am_Ct am_G0 m_TA_tokensIn f 0 0 [.int s, .int k] h (fun v h' => h' = h ∧ v = some (.int ((s >>> ((nI 2 * k) &&& 31)) &&& nI 3))) := by
  refine am_Ct.of (E := E_TA_tokensIn) e_TA_tokensIn (by decide) (Nat.le_of_ble_eq_true rfl) ?_
  refine am_B.run (hp := false) (sp := []) 200 rfl ?_
  exact am_B.iret rfl rfl rfl ⟨rfl, rfl⟩
set_option maxRecDepth 100000 in
set_option maxHeartbeats 4000000 in
theorem ct_TA_packMove (f : Nat) (h : am_H) (a b c d : Int32) : am_Ct am_G0 m_TA_packMove f 0 0 [.int a, .int b, .int c, .int d] h (fun v h' => h' = h ∧ v = some (.int (((a ||| ((b + nI 1) <<< (nI 2 &&& 31))) ||| ((c + nI 1) <<< (nI 6 &&& 31))) ||| (d <<< (nI 9 &&& 31))))) := by
  refine am_Ct.of (E := E_TA_packMove) e_TA_packMove (by decide) (Nat.le_of_ble_eq_true rfl) ?_
  refine am_B.run (hp := false) (sp := []) 200 rfl ?_
  exact am_B.iret rfl rfl rfl ⟨rfl, rfl⟩
set_option maxRecDepth 100000 in
set_option maxHeartbeats 4000000 in
theorem ct_TA_kindOf (f : Nat) (h : am_H) (a : Int32) : am_Ct am_G0 m_TA_kindOf f 0 0 [.int a] h (fun v h' => h' = h ∧ v = some (.int (a &&& nI 3))) := by
  refine am_Ct.of (E := E_TA_kindOf) e_TA_kindOf (by decide) (Nat.le_of_ble_eq_true rfl) ?_
  refine am_B.run (hp := false) (sp := []) 200 rfl ?_
  exact am_B.iret rfl rfl rfl ⟨rfl, rfl⟩
set_option maxRecDepth 100000 in
set_option maxHeartbeats 4000000 in
theorem ct_TA_transitionOf (f : Nat) (h : am_H) (a : Int32) : am_Ct am_G0 m_TA_transitionOf f 0 0 [.int a] h (fun v h' => h' = h ∧ v = some (.int (((a >>> (nI 2 &&& 31)) &&& nI 15) - nI 1))) := by
  refine am_Ct.of (E := E_TA_transitionOf) e_TA_transitionOf (by decide) (Nat.le_of_ble_eq_true rfl) ?_
  refine am_B.run (hp := false) (sp := []) 200 rfl ?_
  exact am_B.iret rfl rfl rfl ⟨rfl, rfl⟩
set_option maxRecDepth 100000 in
set_option maxHeartbeats 4000000 in
theorem ct_TA_labelOf (f : Nat) (h : am_H) (a : Int32) : am_Ct am_G0 m_TA_labelOf f 0 0 [.int a] h (fun v h' => h' = h ∧ v = some (.int (((a >>> (nI 6 &&& 31)) &&& nI 7) - nI 1))) := by
  refine am_Ct.of (E := E_TA_labelOf) e_TA_labelOf (by decide) (Nat.le_of_ble_eq_true rfl) ?_
  refine am_B.run (hp := false) (sp := []) 200 rfl ?_
  exact am_B.iret rfl rfl rfl ⟨rfl, rfl⟩
set_option maxRecDepth 100000 in
set_option maxHeartbeats 4000000 in
theorem ct_TA_markingOf (f : Nat) (h : am_H) (a : Int32) : am_Ct am_G0 m_TA_markingOf f 0 0 [.int a] h (fun v h' => h' = h ∧ v = some (.int (a >>> (nI 9 &&& 31)))) := by
  refine am_Ct.of (E := E_TA_markingOf) e_TA_markingOf (by decide) (Nat.le_of_ble_eq_true rfl) ?_
  refine am_B.run (hp := false) (sp := []) 200 rfl ?_
  exact am_B.iret rfl rfl rfl ⟨rfl, rfl⟩
-- a row filled with one number
set_option maxRecDepth 100000 in
set_option maxHeartbeats 4000000 in
theorem ct_AR_fill (f : Nat) (h : am_H) (a n : Nat) (g : Nat → Int32) (v : Int32) (ha : h[a]? = some (.inl (0, n, .inl g))) (hn : n < 2 ^ 31) : am_Ct am_G0 m_AR_fill f 0 0 [.ref a, .int v] h (fun r h' => r = none ∧ h' = h.set a (.inl (0, n, .inl fun j => if j < n then v else g j))) := by
  refine am_Ct.of (E := E_AR_fill) e_AR_fill (by decide) (Nat.le_of_ble_eq_true rfl) ?_
  refine am_B.run (hp := false) (sp := []) 200 rfl ?_
  refine am_B.alen rfl rfl ha (Or.inl ⟨by decide, rfl⟩) ?_
  refine am_B.run (hp := false) (sp := [5]) 200 rfl ?_
  have L : ∀ d i, i + d = n → am_B E_AR_fill (am_rm f 0 0) (am_ZM E_AR_fill 0 0 (fun r h' => r = none ∧ h' = h.set a (.inl (0, n, .inl fun j => if j < n then v else g j)))) 5 [some (.ref a), some (.int v), some (.int (nI i)), some (.int (nI n))] [] (h.set a (.inl (0, n, .inl fun j => if j < i then v else g j))) 0 0 := by
    intro d
    induction d with
    | zero =>
      intro i hi
      have e : i = n := by omega
      subst e
      refine am_B.run (hp := false) (sp := []) 200 rfl ?_
      refine am_B.icmp_ge rfl rfl (fun _ => ?_) (fun q => absurd (nI_le (Nat.le_refl _) hn) q)
      exact am_B.vret rfl rfl rfl ⟨rfl, rfl⟩
    | succ d ih =>
      intro i hi
      refine am_B.run (hp := false) (sp := []) 200 rfl ?_
      refine am_B.icmp_ge rfl rfl (fun q => absurd q (nI_ge (by omega) hn)) (fun _ => ?_)
      refine am_B.run (hp := false) (sp := []) 200 rfl ?_
      refine am_B.ast rfl (gs_s ha) (vp_nI (by omega) hn) rfl ?_
      refine am_B.run (hp := false) (sp := [5]) 200 rfl ?_
      have e := ih (i + 1) (by omega)
      rw [gs_ss, nI_clamp (show i < 2 ^ 31 by omega)]
      have e2 : upd (fun j => if j < i then v else g j) i v = fun j => if j < i + 1 then v else g j := by
        funext j
        unfold upd
        by_cases q : j = i
        · subst q; simp
        · by_cases q2 : j < i
          · simp [q, q2, show j < i + 1 by omega]
          · simp [q, q2, show ¬ j < i + 1 by omega]
      rw [e2, nI_1 i |> fun z => (show nI i + nI 1 = nI (i + 1) from z)]
      exact e
  have e0 := L n 0 (by omega)
  have e1 : (fun j => if j < 0 then v else g j) = g := by funext j; simp
  rw [e1, gs_id ha] at e0
  exact e0
