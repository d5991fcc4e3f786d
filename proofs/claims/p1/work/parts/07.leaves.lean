/-! LEAVES: small static methods, rows filled -/
theorem gs_s {h : am_H} {a : Nat} {x c : am_C} (ha : h[a]? = some x) : (h.set a c)[a]? = some c := List.getElem?_set_self (List.getElem?_eq_some_iff.mp ha).1
theorem gs_n {h : am_H} {a b : Nat} {x c : am_C} (hne : a ≠ b) (hb : h[b]? = some x) : (h.set a c)[b]? = some x := (List.getElem?_set_ne hne).trans hb
theorem gs_ss (h : am_H) (a : Nat) (c d : am_C) : (h.set a c).set a d = h.set a d := List.set_set ..
theorem gs_id {h : am_H} {a : Nat} {x : am_C} (ha : h[a]? = some x) : h.set a x = h := by
  apply List.ext_getElem?
  intro i
  by_cases e : a = i
  · subst e; rw [gs_s ha, ha]
  · rw [List.getElem?_set_ne e]
theorem vp_nI {k n : Nat} (h : k < n) (hn : n < 2 ^ 31) : vp_in (nI k) n := vp_in_nI h hn
-- a row filled with one number
set_option maxRecDepth 100000 in
set_option maxHeartbeats 4000000 in
theorem ct_AR_fill (f : Nat) (h : am_H) (a n : Nat) (g : Nat → Int32) (v : Int32) (ha : h[a]? = some (.inl (0, n, .inl g))) (hn : n < 2 ^ 31) : am_Ct am_G0 m_AR_fill f 0 0 [.ref a, .int v] h (fun r h' => r = none ∧ h' = h.set a (.inl (0, n, .inl fun j => if j < n then v else g j))) := by
  refine am_Ct.of (E := E_AR_fill) e_AR_fill (by decide) (Nat.le_of_ble_eq_true rfl) ?_
  refine am_B.run (hp := false) (sp := []) 200 rfl ?_
  refine am_B.alen rfl rfl ha (Or.inl ⟨by decide, rfl⟩) ?_
  refine am_B.run (hp := false) (sp := [5]) 200 rfl ?_
  have L : ∀ d i, i + d = n → am_B E_AR_fill (am_rm f 0 0) (am_ZM E_AR_fill 0 0 (fun r h' => r = none ∧ h' = h.set a (.inl (0, n, .inl fun j => if j < n then v else g j)))) 5 [some (.ref a), some (.int v), some (.int (nI i)), some (.int (nI n))] [] (h.set a (.inl (0, n, .inl fun j => if j < i then v else g j))) 0 0 := by
    intro d
    induction d with
    | zero =>
      intro i hi
      have e : i = n := by omega
      subst e
      refine am_B.run (hp := false) (sp := []) 200 rfl ?_
      refine am_B.icmp_ge rfl rfl (fun _ => ?_) (fun q => absurd (nI_le (Nat.le_refl _) hn) q)
      exact am_B.vret rfl rfl rfl ⟨rfl, rfl⟩
    | succ d ih =>
      intro i hi
      refine am_B.run (hp := false) (sp := []) 200 rfl ?_
      refine am_B.icmp_ge rfl rfl (fun q => absurd q (nI_ge (by omega) hn)) (fun _ => ?_)
      refine am_B.run (hp := false) (sp := []) 200 rfl ?_
      refine am_B.ast rfl (gs_s ha) (vp_nI (by omega) hn) rfl ?_
      refine am_B.run (hp := false) (sp := [5]) 200 rfl ?_
      have e := ih (i + 1) (by omega)
      rw [gs_ss, nI_clamp (show i < 2 ^ 31 by omega)]
      have e2 : upd (fun j => if j < i then v else g j) i v = fun j => if j < i + 1 then v else g j := by
        funext j
        unfold upd
        by_cases q : j = i
        · subst q; simp
        · by_cases q2 : j < i
          · simp [q, q2, show j < i + 1 by omega]
          · simp [q, q2, show ¬ j < i + 1 by omega]
      rw [e2, nI_1 i |> fun z => (show nI i + nI 1 = nI (i + 1) from z)]
      exact e
  have e0 := L n 0 (by omega)
  have e1 : (fun j => if j < 0 then v else g j) = g := by funext j; simp
  rw [e1, gs_id ha] at e0
  exact e0
