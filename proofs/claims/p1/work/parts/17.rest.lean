/-! THE PLAIN MACHINE: methods of a class that the machine has entries for, without an entry of their own -/
theorem am_Ct.ofF {E : am_E} {f dc ds : Nat} {av : List Value} {h : am_H} {Qa : Option Value → am_H → Prop} (hE : am_okE E) (hy : plainFor E.2.2.1.1 = true) (hn : (am_lo av).length ≤ E.2.2.1.2.2.1)
    (k : am_B E (am_rm f dc ds) (am_ZM E dc ds Qa) 0 (am_lo0 av E.2.2.1.2.2.1) [] h dc ds) : am_Ct E.1 E.2.2.1 f dc ds av h Qa := by
  intro l D cA sb base
  refine va_MetF (cc := E.2.2.1.2.1) (maxL := E.2.2.1.2.2.1) (ret := E.2.2.1.2.2.2) hy rfl ?_
  intro p e s m args below meth c s₁ B hml hv
  obtain ⟨rfl, hR, hK⟩ := hv
  have hts := atoms_spec (ws := .code E.2.2.1.1 E.2.2.1.2.1 E.2.2.1.2.2.1 E.2.2.1.2.2.2 :: E.1.2) B.pre
  have hown : s.vm.findClass E.2.2.1.1.cls = some m.cls := findClass_of_methodNamed B.named
  have K := k hE l D cA sb base p e s m _ below meth c ⟨B.exec, B.bytes, hml, B.returns, hown, fun w hw => hts w (List.mem_cons_of_mem _ hw), hK, B.notSynchronized, (name_of_methodNamed B.named B.method).1⟩
    s.heap [] 0 0 _ hR va_S.rf (by show 0 + dc ≤ dc; omega) (by show 0 + ds ≤ ds; omega) (am_entry hn)
  rw [lg_entry_eq]
  exact K
theorem pf_bc : plainFor m_IN_bitCount.1 = true := by decide +kernel
theorem ap_l {h : am_H} {a : Nat} {x y : am_C} (q : h[a]? = some x) : (h ++ [y])[a]? = some x := by rw [List.getElem?_append_left (List.getElem?_eq_some_iff.mp q).1]; exact q
theorem ap_e {h : am_H} {y : am_C} : (h ++ [y])[h.length]? = some y := by rw [List.getElem?_append_right (Nat.le_refl _), Nat.sub_self]; rfl
theorem mL_len {X : am_C} {h : am_H} : (mL X h).length = h.length := by unfold mL; rw [List.length_set, List.length_set]
set_option maxRecDepth 100000 in
set_option maxHeartbeats 4000000 in
theorem mt_bitCount (f : Nat) (h : am_H) (x : Int32) (hx : x = nI 0) : am_Ct am_G0 m_IN_bitCount f 0 0 [.int x] h (fun v h' => v = some (.int (nI 0)) ∧ h' = h) := by
  subst hx
  refine am_Ct.ofF (E := E_IN_bitCount) e_IN_bitCount pf_bc (Nat.le_of_ble_eq_true rfl) ?_
  refine am_B.run (hp := false) (sp := []) 200 rfl ?_
  exact am_B.iret rfl rfl rfl ⟨congrArg (fun x => some (Value.int x)) (by decide), rfl⟩
set_option maxRecDepth 100000 in
set_option maxHeartbeats 4000000 in
theorem mt_numberOf2 (f : Nat) (h : am_H) (th : Int32) (h53 : h[53]? = some (c_ML th)) (h63 : h[63]? = some (ia 200 (upd (fun _ => 0) 0 (nI 0)))) : am_Ct am_G0 m_MO_numberOf f 0 0 [.ref 53, .int (nI 0)] h (fun v h' => v = some (.int (nI 0)) ∧ h' = h) := by
  refine am_Ct.of (E := E_MO_numberOf) e_MO_numberOf (by decide) (Nat.le_of_ble_eq_true rfl) ?_
  refine am_B.run (hp := false) (sp := []) 200 rfl ?_
  refine am_B.get rfl rfl rfl h53 rfl rfl ?_
  refine am_B.icmp_ge rfl rfl (fun z => absurd z (by decide)) (fun _ => ?_)
  refine am_B.run (hp := false) (sp := []) 200 rfl ?_
  refine am_B.get rfl rfl rfl h53 rfl rfl ?_
  refine am_B.run (hp := false) (sp := []) 200 rfl ?_
  refine am_B.ald rfl h63 (vp_n (show 0 < 200 by decide) rfl) rfl ?_
  rw [nI_clamp (show 0 < 2 ^ 31 by decide), upd_s]
  refine am_B.run (hp := false) (sp := []) 200 rfl ?_
  refine am_B.icmp_ne rfl rfl (fun z => absurd rfl z) (fun _ => ?_)
  refine am_B.run (hp := false) (sp := []) 200 rfl ?_
  exact am_B.iret rfl rfl rfl ⟨rfl, rfl⟩
set_option maxRecDepth 100000 in
set_option maxHeartbeats 4000000 in
theorem mt_enabledIn2 (f : Nat) (h : am_H) (th : Int32) (h53 : h[53]? = some (c_ML th)) : am_Ct am_G0 m_MO_enabledIn f 0 0 [.ref 53, .int (nI 0)] h (fun v h' => v = some (.int (nI 0)) ∧ h' = h) := by
  refine am_Ct.of (E := E_MO_enabledIn) e_MO_enabledIn (by decide) (Nat.le_of_ble_eq_true rfl) ?_
  refine am_B.run (hp := false) (sp := []) 200 rfl ?_
  refine am_B.get rfl rfl rfl h53 rfl rfl ?_
  refine am_B.icmp_ge rfl rfl (fun _ => ?_) (fun z => absurd (by decide) z)
  refine am_B.run (hp := false) (sp := []) 200 rfl ?_
  exact am_B.iret rfl rfl rfl ⟨rfl, rfl⟩
set_option maxRecDepth 100000 in
set_option maxHeartbeats 4000000 in
theorem mc_thrown (h : am_H) (k : Nat) (vs : List Value) (h53 : h[53]? = some (.inr (5, vs))) (hv : vs[0]? = some (.int (nI k))) : am_Ct am_G0 m_MO_thrown 3 0 0 [.ref 53] h (fun v h' => v = some (.int (nI k)) ∧ h' = h) := by
  refine am_Ct.of (E := E_MO_thrown) e_MO_thrown (by decide) (Nat.le_of_ble_eq_true rfl) ?_
  refine am_B.run (hp := false) (sp := []) 200 rfl ?_
  refine am_B.get rfl rfl rfl h53 rfl hv ?_
  exact am_B.iret rfl rfl rfl ⟨rfl, rfl⟩
set_option maxRecDepth 100000 in
set_option maxHeartbeats 4000000 in
theorem mc_awayA (h : am_H) (M : mF h) (x : Int32) (hx : xbad x 1) : am_Ct am_G0 m_MO_away 3 1 200 [.ref 53, .int x] h (fun v h' => v = some (.int (nI 0)) ∧ mP 2 h h') := by
  have m53 := M.2.1
  refine am_Ct.of (E := E_MO_away) e_MO_away (by decide) (Nat.le_of_ble_eq_true rfl) ?_
  refine am_B.run (hp := false) (sp := []) 200 rfl ?_
  refine am_B.callV (rc := 1) (rs := 200) (ci := 5) (n := 1) (as := [.int x]) rfl rfl rfl (mt_asks0 _ M x hx) rfl rfl (by exact Nat.le_of_ble_eq_true rfl) rfl m53 rfl rfl (fun v h' z => ?_)
  obtain ⟨rfl, rfl⟩ := z
  refine am_B.if_ne rfl rfl (fun z => absurd rfl z) (fun _ => ?_)
  refine am_B.run (hp := false) (sp := []) 200 rfl ?_
  exact am_B.iret rfl rfl rfl ⟨rfl, mL_P M rfl⟩
set_option maxRecDepth 100000 in
set_option maxHeartbeats 4000000 in
theorem mc_away (h : am_H) (M : mF h) : am_Ct am_G0 m_MO_away 3 1 200 [.ref 53, .int (nI 0)] h (fun v h' => v = some (.int (nI 0)) ∧ mP 0 h h') := by
  have m53 := M.2.1
  refine am_Ct.of (E := E_MO_away) e_MO_away (by decide) (Nat.le_of_ble_eq_true rfl) ?_
  have hn : 71 ≤ (mL (c_ML (nI 0)) h).length := by rw [mL_len]; exact M.1
  refine am_B.run (hp := false) (sp := []) 200 rfl ?_
  refine am_B.callV (rc := 1) (rs := 200) (ci := 5) (n := 1) (as := [.int (nI 0)]) rfl rfl rfl (mt_asks1 _ M) rfl rfl (by exact Nat.le_of_ble_eq_true rfl) rfl m53 rfl rfl (fun v h' z => ?_)
  obtain ⟨rfl, rfl⟩ := z
  refine am_B.if_ne rfl rfl (fun _ => ?_) (fun z => absurd z (by decide))
  refine am_B.run (hp := false) (sp := []) 200 rfl ?_
  refine am_B.newZ (rc := 0) (rs := 0) (n := 200) rfl rfl rfl aw_boolean rfl (Nat.le_of_ble_eq_true rfl) ?_
  refine am_B.run (hp := false) (sp := []) 200 rfl ?_
  refine am_B.ast rfl ap_e (vp_n (show 0 < 200 by decide) rfl) rfl ?_
  rw [nI_clamp (show 0 < 2 ^ 31 by decide)]
  refine am_B.run (hp := false) (sp := []) 200 rfl ?_
  refine am_B.get rfl rfl rfl (gs_n (by omega) (ap_l (mL_53 M))) rfl rfl ?_
  refine am_B.callV (rc := 0) (rs := 0) (ci := 5) (n := 1) (as := [.int (nI 0)]) rfl rfl rfl (mt_numberOf2 0 _ (nI 0) (gs_n (by omega) (ap_l (mL_53 M))) (gs_n (by omega) (ap_l (mL_63 M)))) rfl rfl (by exact Nat.le_of_ble_eq_true rfl) rfl (gs_n (by omega) (ap_l (mL_53 M))) rfl rfl (fun v h' z => ?_)
  obtain ⟨rfl, rfl⟩ := z
  refine am_B.run (hp := false) (sp := []) 200 rfl ?_
  refine am_B.get rfl rfl rfl (gs_n (by omega) (ap_l (mL_53 M))) rfl rfl ?_
  refine am_B.icmp_gt rfl rfl (fun z => absurd z (by decide)) (fun _ => ?_)
  refine am_B.run (hp := false) (sp := []) 200 rfl ?_
  refine am_B.icmp_eq rfl rfl (fun z => absurd z (by decide)) (fun _ => ?_)
  refine am_B.run (hp := false) (sp := []) 200 rfl ?_
  refine am_B.ald rfl (gs_s ap_e) (vp_n (show 0 < 200 by decide) rfl) rfl ?_
  rw [nI_clamp (show 0 < 2 ^ 31 by decide), upd_s]
  refine am_B.if_eq rfl rfl (fun z => absurd z (by decide)) (fun _ => ?_)
  refine am_B.run (hp := false) (sp := []) 200 rfl ?_
  exact am_B.iret rfl rfl rfl ⟨rfl, ((mL_P (k := 0) M rfl).app M.1 _).set (by omega) _⟩
set_option maxRecDepth 100000 in
set_option maxHeartbeats 4000000 in
theorem mc_precision (h : am_H) (M : mF h) : am_Ct am_G0 m_MO_precision 3 2 400 [.ref 53] h (fun v h' => v = some (.double FP.dconst1) ∧ mP 0 h h') := by
  have m53 := M.2.1
  refine am_Ct.of (E := E_MO_precision) e_MO_precision (by decide) (Nat.le_of_ble_eq_true rfl) ?_
  have hn : 71 ≤ (mL (c_ML (nI 0)) h).length := by rw [mL_len]; exact M.1
  refine am_B.run (hp := false) (sp := []) 200 rfl ?_
  refine am_B.callV (rc := 2) (rs := 400) (ci := 5) (n := 1) (as := [.int (nI 0)]) rfl rfl rfl (mt_asks1 _ M) rfl rfl (by exact Nat.le_of_ble_eq_true rfl) rfl m53 rfl rfl (fun v h' z => ?_)
  obtain ⟨rfl, rfl⟩ := z
  refine am_B.if_ne rfl rfl (fun _ => ?_) (fun z => absurd z (by decide))
  refine am_B.run (hp := false) (sp := []) 200 rfl ?_
  refine am_B.newI (rc := 1) (rs := 200) (n := 200) rfl rfl aw_int rfl (Nat.le_of_ble_eq_true rfl) ?_
  refine am_B.run (hp := false) (sp := []) 200 rfl ?_
  refine am_B.newI (rc := 0) (rs := 0) (n := 200) rfl rfl aw_int rfl (Nat.le_of_ble_eq_true rfl) ?_
  refine am_B.run (hp := false) (sp := []) 200 rfl ?_
  refine am_B.get rfl rfl rfl (ap_l (ap_l (mL_53 M))) rfl rfl ?_
  refine am_B.icmp_ge rfl rfl (fun _ => ?_) (fun z => absurd (by decide) z)
  refine am_B.run (hp := false) (sp := []) 200 rfl ?_
  refine am_B.get rfl rfl rfl (ap_l (ap_l (mL_53 M))) rfl rfl ?_
  refine am_B.icmp_ge rfl rfl (fun z => absurd z (by decide)) (fun _ => ?_)
  refine am_B.run (hp := false) (sp := []) 200 rfl ?_
  refine am_B.ald rfl (ap_l ap_e) (vp_n (show 0 < 200 by decide) rfl) rfl ?_
  refine am_B.run (hp := false) (sp := []) 200 rfl ?_
  refine am_B.callV (rc := 0) (rs := 0) (ci := 5) (n := 1) (as := [.int (nI 0)]) rfl rfl rfl (mt_enabledIn2 0 _ (nI 0) (ap_l (ap_l (mL_53 M)))) rfl rfl (by exact Nat.le_of_ble_eq_true rfl) rfl (ap_l (ap_l (mL_53 M))) rfl rfl (fun v h' z => ?_)
  obtain ⟨rfl, rfl⟩ := z
  refine am_B.callS (rc := 0) (rs := 0) (n := 1) (as := [.int (nI 0)]) rfl rfl rfl (mt_bitCount 0 _ (nI 0) rfl) rfl rfl (by exact Nat.le_of_ble_eq_true rfl) rfl rfl rfl (fun v h' z => ?_)
  obtain ⟨rfl, rfl⟩ := z
  refine am_B.run (hp := false) (sp := []) 200 rfl ?_
  refine am_B.ald rfl (ap_l ap_e) (vp_n (show 0 < 200 by decide) rfl) rfl ?_
  refine am_B.run (hp := false) (sp := []) 200 rfl ?_
  refine am_B.callV (rc := 0) (rs := 0) (ci := 5) (n := 1) (as := [.int (nI 0)]) rfl rfl rfl (mt_enabledIn2 0 _ (nI 0) (ap_l (ap_l (mL_53 M)))) rfl rfl (by exact Nat.le_of_ble_eq_true rfl) rfl (ap_l (ap_l (mL_53 M))) rfl rfl (fun v h' z => ?_)
  obtain ⟨rfl, rfl⟩ := z
  refine am_B.run (hp := false) (sp := []) 200 rfl ?_
  refine am_B.ald rfl ap_e (vp_n (show 0 < 200 by decide) rfl) rfl ?_
  refine am_B.run (hp := false) (sp := []) 200 rfl ?_
  refine am_B.callS (rc := 0) (rs := 0) (n := 1) (as := [.int _]) rfl rfl rfl (mt_bitCount 0 _ _ (by decide)) rfl rfl (by exact Nat.le_of_ble_eq_true rfl) rfl rfl rfl (fun v h' z => ?_)
  obtain ⟨rfl, rfl⟩ := z
  refine am_B.run (hp := false) (sp := []) 200 rfl ?_
  refine am_B.get rfl rfl rfl (ap_l (ap_l (mL_53 M))) rfl rfl ?_
  refine am_B.icmp_ge rfl rfl (fun _ => ?_) (fun z => absurd (by decide) z)
  refine am_B.run (hp := false) (sp := []) 200 rfl ?_
  refine am_B.if_ne rfl rfl (fun z => absurd (by decide) z) (fun _ => ?_)
  refine am_B.run (hp := false) (sp := []) 200 rfl ?_
  exact am_B.dret rfl rfl rfl ⟨rfl, ((mL_P (k := 0) M rfl).app M.1 _).app M.1 _⟩
