/-! THE MAKING of the reference, the law's world -/
theorem aq_get {h t : am_H} {n i : Nat} {x : am_C} (hn : n = h.length + i) (hx : t[i]? = some x) : (h ++ t)[n]? = some x := by
  subst hn
  rw [List.getElem?_append_right (Nat.le_add_right _ _), Nat.add_sub_cancel_left]
  exact hx
theorem aq_set {h t : am_H} {n i : Nat} {c : am_C} (hn : n = h.length + i) : (h ++ t).set n c = h ++ t.set i c := by
  subst hn
  rw [List.set_append_right _ _ (Nat.le_add_right _ _), Nat.add_sub_cancel_left]
def mTs : am_H := [z_ 10, z_ 10, z_ 10, z_ 10, ia 6 one6, z_ 8, z_ 8, z_ 8, z_ 64, z_ 200, z_ 2000, z_ 1800, z_ 1800, z_ 1800, z_ 1800]
set_option maxRecDepth 100000 in
set_option maxHeartbeats 4000000 in
theorem ct_MO_init (h : am_H) (h53 : h[53]? = some (.inr (5, [.int 0, .int 0, .int 0, .null, .null, .null, .null, .int 0, .int 0, .null, .int 0, .null, .int 0, .null, .null, .null, .int 0, .int 0, .int 0, .null, .null, .null, .int 0, .int 0, .int 0, .null, .null, .null, .int 0]))) : am_Ct am_G0 m_MO_init 1 15 9534 [.ref 53] h (fun v h' => v = none ∧ h' = h.set 53 (.inr (5, [.int 0, .int 0, .int 0, .ref h.length, .ref (h.length + 1), .ref (h.length + 2), .ref (h.length + 3), .int 0, .int 0, .ref (h.length + 4), .int 0, .ref (h.length + 5), .int 0, .ref (h.length + 6), .ref (h.length + 7), .ref (h.length + 8), .int 0, .int 0, .int 0, .ref (h.length + 9), .ref (h.length + 10), .ref (h.length + 11), .int 0, .int 0, .int 0, .ref (h.length + 12), .ref (h.length + 13), .ref (h.length + 14), .int 0])) ++ mTs) := by
  refine am_Ct.of (E := E_MO_init) e_MO_init (by decide) (Nat.le_of_ble_eq_true rfl) ?_
  refine am_B.run (hp := false) (sp := []) 200 rfl ?_
  refine am_B.obji rfl rfl ow_MO ow_1 ow_2 (Nat.le_of_ble_eq_true rfl) rfl ?_
  refine am_B.run (hp := false) (sp := []) 200 rfl ?_
  refine am_B.newI (rc := 14) (rs := 9524) (n := 10) rfl rfl aw_int rfl (Nat.le_of_ble_eq_true rfl) ?_
  simp only [ap_ass, List.length_append, List.length_set, List.length_cons, List.length_nil, List.set_cons_zero, List.set_cons_succ, List.cons_append, List.nil_append, Nat.add_zero, Nat.zero_add, Nat.reduceAdd, Option.toList_none, Option.toList_some]
  refine am_B.run (hp := false) (sp := []) 200 rfl ?_
  refine am_B.put rfl rfl rfl (ap_get h53) rfl (Nat.le_of_ble_eq_true rfl) rfl (fun _ => rfl) ?_
  rw [ap_set h53]
  simp only [ap_ass, List.length_append, List.length_set, List.length_cons, List.length_nil, List.set_cons_zero, List.set_cons_succ, List.cons_append, List.nil_append, Nat.add_zero, Nat.zero_add, Nat.reduceAdd, Option.toList_none, Option.toList_some]
  refine am_B.run (hp := false) (sp := []) 200 rfl ?_
  refine am_B.newI (rc := 13) (rs := 9514) (n := 10) rfl rfl aw_int rfl (Nat.le_of_ble_eq_true rfl) ?_
  simp only [ap_ass, List.length_append, List.length_set, List.length_cons, List.length_nil, List.set_cons_zero, List.set_cons_succ, List.cons_append, List.nil_append, Nat.add_zero, Nat.zero_add, Nat.reduceAdd, Option.toList_none, Option.toList_some]
  refine am_B.run (hp := false) (sp := []) 200 rfl ?_
  refine am_B.put rfl rfl rfl (ap_get (gs_s h53)) rfl (Nat.le_of_ble_eq_true rfl) rfl (fun _ => rfl) ?_
  rw [ap_set (gs_s h53), gs_ss]
  simp only [ap_ass, List.length_append, List.length_set, List.length_cons, List.length_nil, List.set_cons_zero, List.set_cons_succ, List.cons_append, List.nil_append, Nat.add_zero, Nat.zero_add, Nat.reduceAdd, Option.toList_none, Option.toList_some]
  refine am_B.run (hp := false) (sp := []) 200 rfl ?_
  refine am_B.newI (rc := 12) (rs := 9504) (n := 10) rfl rfl aw_int rfl (Nat.le_of_ble_eq_true rfl) ?_
  simp only [ap_ass, List.length_append, List.length_set, List.length_cons, List.length_nil, List.set_cons_zero, List.set_cons_succ, List.cons_append, List.nil_append, Nat.add_zero, Nat.zero_add, Nat.reduceAdd, Option.toList_none, Option.toList_some]
  refine am_B.run (hp := false) (sp := []) 200 rfl ?_
  refine am_B.put rfl rfl rfl (ap_get (gs_s h53)) rfl (Nat.le_of_ble_eq_true rfl) rfl (fun _ => rfl) ?_
  rw [ap_set (gs_s h53), gs_ss]
  simp only [ap_ass, List.length_append, List.length_set, List.length_cons, List.length_nil, List.set_cons_zero, List.set_cons_succ, List.cons_append, List.nil_append, Nat.add_zero, Nat.zero_add, Nat.reduceAdd, Option.toList_none, Option.toList_some]
  refine am_B.run (hp := false) (sp := []) 200 rfl ?_
  refine am_B.newI (rc := 11) (rs := 9494) (n := 10) rfl rfl aw_int rfl (Nat.le_of_ble_eq_true rfl) ?_
  simp only [ap_ass, List.length_append, List.length_set, List.length_cons, List.length_nil, List.set_cons_zero, List.set_cons_succ, List.cons_append, List.nil_append, Nat.add_zero, Nat.zero_add, Nat.reduceAdd, Option.toList_none, Option.toList_some]
  refine am_B.run (hp := false) (sp := []) 200 rfl ?_
  refine am_B.put rfl rfl rfl (ap_get (gs_s h53)) rfl (Nat.le_of_ble_eq_true rfl) rfl (fun _ => rfl) ?_
  rw [ap_set (gs_s h53), gs_ss]
  simp only [ap_ass, List.length_append, List.length_set, List.length_cons, List.length_nil, List.set_cons_zero, List.set_cons_succ, List.cons_append, List.nil_append, Nat.add_zero, Nat.zero_add, Nat.reduceAdd, Option.toList_none, Option.toList_some]
  refine am_B.run (hp := false) (sp := []) 200 rfl ?_
  refine am_B.newI (rc := 10) (rs := 9488) (n := 6) rfl rfl aw_int rfl (Nat.le_of_ble_eq_true rfl) ?_
  simp only [ap_ass, List.length_append, List.length_set, List.length_cons, List.length_nil, List.set_cons_zero, List.set_cons_succ, List.cons_append, List.nil_append, Nat.add_zero, Nat.zero_add, Nat.reduceAdd, Option.toList_none, Option.toList_some]
  refine am_B.run (hp := false) (sp := []) 200 rfl ?_
  refine am_B.ast rfl (aq_get (i := 4) (by rw [List.length_set]) rfl) (vp_n (show 0 < 6 by decide) rfl) rfl ?_
  rw [nI_clamp (show 0 < 2 ^ 31 by decide), aq_set (i := 4) (by rw [List.length_set])]
  simp only [ap_ass, List.length_append, List.length_set, List.length_cons, List.length_nil, List.set_cons_zero, List.set_cons_succ, List.cons_append, List.nil_append, Nat.add_zero, Nat.zero_add, Nat.reduceAdd, Option.toList_none, Option.toList_some]
  refine am_B.run (hp := false) (sp := []) 200 rfl ?_
  refine am_B.ast rfl (aq_get (i := 4) (by rw [List.length_set]) rfl) (vp_n (show 1 < 6 by decide) rfl) rfl ?_
  rw [nI_clamp (show 1 < 2 ^ 31 by decide), aq_set (i := 4) (by rw [List.length_set])]
  simp only [ap_ass, List.length_append, List.length_set, List.length_cons, List.length_nil, List.set_cons_zero, List.set_cons_succ, List.cons_append, List.nil_append, Nat.add_zero, Nat.zero_add, Nat.reduceAdd, Option.toList_none, Option.toList_some]
  refine am_B.run (hp := false) (sp := []) 200 rfl ?_
  refine am_B.ast rfl (aq_get (i := 4) (by rw [List.length_set]) rfl) (vp_n (show 2 < 6 by decide) rfl) rfl ?_
  rw [nI_clamp (show 2 < 2 ^ 31 by decide), aq_set (i := 4) (by rw [List.length_set])]
  simp only [ap_ass, List.length_append, List.length_set, List.length_cons, List.length_nil, List.set_cons_zero, List.set_cons_succ, List.cons_append, List.nil_append, Nat.add_zero, Nat.zero_add, Nat.reduceAdd, Option.toList_none, Option.toList_some]
  refine am_B.run (hp := false) (sp := []) 200 rfl ?_
  refine am_B.ast rfl (aq_get (i := 4) (by rw [List.length_set]) rfl) (vp_n (show 3 < 6 by decide) rfl) rfl ?_
  rw [nI_clamp (show 3 < 2 ^ 31 by decide), aq_set (i := 4) (by rw [List.length_set])]
  simp only [ap_ass, List.length_append, List.length_set, List.length_cons, List.length_nil, List.set_cons_zero, List.set_cons_succ, List.cons_append, List.nil_append, Nat.add_zero, Nat.zero_add, Nat.reduceAdd, Option.toList_none, Option.toList_some]
  refine am_B.run (hp := false) (sp := []) 200 rfl ?_
  refine am_B.ast rfl (aq_get (i := 4) (by rw [List.length_set]) rfl) (vp_n (show 4 < 6 by decide) rfl) rfl ?_
  rw [nI_clamp (show 4 < 2 ^ 31 by decide), aq_set (i := 4) (by rw [List.length_set])]
  simp only [ap_ass, List.length_append, List.length_set, List.length_cons, List.length_nil, List.set_cons_zero, List.set_cons_succ, List.cons_append, List.nil_append, Nat.add_zero, Nat.zero_add, Nat.reduceAdd, Option.toList_none, Option.toList_some]
  refine am_B.run (hp := false) (sp := []) 200 rfl ?_
  refine am_B.ast rfl (aq_get (i := 4) (by rw [List.length_set]) rfl) (vp_n (show 5 < 6 by decide) rfl) rfl ?_
  rw [nI_clamp (show 5 < 2 ^ 31 by decide), aq_set (i := 4) (by rw [List.length_set])]
  simp only [ap_ass, List.length_append, List.length_set, List.length_cons, List.length_nil, List.set_cons_zero, List.set_cons_succ, List.cons_append, List.nil_append, Nat.add_zero, Nat.zero_add, Nat.reduceAdd, Option.toList_none, Option.toList_some]
  refine am_B.run (hp := false) (sp := []) 200 rfl ?_
  refine am_B.put rfl rfl rfl (ap_get (gs_s h53)) rfl (Nat.le_of_ble_eq_true rfl) rfl (fun _ => rfl) ?_
  rw [ap_set (gs_s h53), gs_ss]
  simp only [ap_ass, List.length_append, List.length_set, List.length_cons, List.length_nil, List.set_cons_zero, List.set_cons_succ, List.cons_append, List.nil_append, Nat.add_zero, Nat.zero_add, Nat.reduceAdd, Option.toList_none, Option.toList_some]
  refine am_B.run (hp := false) (sp := []) 200 rfl ?_
  refine am_B.newI (rc := 9) (rs := 9480) (n := 8) rfl rfl aw_int rfl (Nat.le_of_ble_eq_true rfl) ?_
  simp only [ap_ass, List.length_append, List.length_set, List.length_cons, List.length_nil, List.set_cons_zero, List.set_cons_succ, List.cons_append, List.nil_append, Nat.add_zero, Nat.zero_add, Nat.reduceAdd, Option.toList_none, Option.toList_some]
  refine am_B.run (hp := false) (sp := []) 200 rfl ?_
  refine am_B.put rfl rfl rfl (ap_get (gs_s h53)) rfl (Nat.le_of_ble_eq_true rfl) rfl (fun _ => rfl) ?_
  rw [ap_set (gs_s h53), gs_ss]
  simp only [ap_ass, List.length_append, List.length_set, List.length_cons, List.length_nil, List.set_cons_zero, List.set_cons_succ, List.cons_append, List.nil_append, Nat.add_zero, Nat.zero_add, Nat.reduceAdd, Option.toList_none, Option.toList_some]
  refine am_B.run (hp := false) (sp := []) 200 rfl ?_
  refine am_B.newI (rc := 8) (rs := 9472) (n := 8) rfl rfl aw_int rfl (Nat.le_of_ble_eq_true rfl) ?_
  simp only [ap_ass, List.length_append, List.length_set, List.length_cons, List.length_nil, List.set_cons_zero, List.set_cons_succ, List.cons_append, List.nil_append, Nat.add_zero, Nat.zero_add, Nat.reduceAdd, Option.toList_none, Option.toList_some]
  refine am_B.run (hp := false) (sp := []) 200 rfl ?_
  refine am_B.put rfl rfl rfl (ap_get (gs_s h53)) rfl (Nat.le_of_ble_eq_true rfl) rfl (fun _ => rfl) ?_
  rw [ap_set (gs_s h53), gs_ss]
  simp only [ap_ass, List.length_append, List.length_set, List.length_cons, List.length_nil, List.set_cons_zero, List.set_cons_succ, List.cons_append, List.nil_append, Nat.add_zero, Nat.zero_add, Nat.reduceAdd, Option.toList_none, Option.toList_some]
  refine am_B.run (hp := false) (sp := []) 200 rfl ?_
  refine am_B.newI (rc := 7) (rs := 9464) (n := 8) rfl rfl aw_int rfl (Nat.le_of_ble_eq_true rfl) ?_
  simp only [ap_ass, List.length_append, List.length_set, List.length_cons, List.length_nil, List.set_cons_zero, List.set_cons_succ, List.cons_append, List.nil_append, Nat.add_zero, Nat.zero_add, Nat.reduceAdd, Option.toList_none, Option.toList_some]
  refine am_B.run (hp := false) (sp := []) 200 rfl ?_
  refine am_B.put rfl rfl rfl (ap_get (gs_s h53)) rfl (Nat.le_of_ble_eq_true rfl) rfl (fun _ => rfl) ?_
  rw [ap_set (gs_s h53), gs_ss]
  simp only [ap_ass, List.length_append, List.length_set, List.length_cons, List.length_nil, List.set_cons_zero, List.set_cons_succ, List.cons_append, List.nil_append, Nat.add_zero, Nat.zero_add, Nat.reduceAdd, Option.toList_none, Option.toList_some]
  refine am_B.run (hp := false) (sp := []) 200 rfl ?_
  refine am_B.newI (rc := 6) (rs := 9400) (n := 64) rfl rfl aw_int rfl (Nat.le_of_ble_eq_true rfl) ?_
  simp only [ap_ass, List.length_append, List.length_set, List.length_cons, List.length_nil, List.set_cons_zero, List.set_cons_succ, List.cons_append, List.nil_append, Nat.add_zero, Nat.zero_add, Nat.reduceAdd, Option.toList_none, Option.toList_some]
  refine am_B.run (hp := false) (sp := []) 200 rfl ?_
  refine am_B.put rfl rfl rfl (ap_get (gs_s h53)) rfl (Nat.le_of_ble_eq_true rfl) rfl (fun _ => rfl) ?_
  rw [ap_set (gs_s h53), gs_ss]
  simp only [ap_ass, List.length_append, List.length_set, List.length_cons, List.length_nil, List.set_cons_zero, List.set_cons_succ, List.cons_append, List.nil_append, Nat.add_zero, Nat.zero_add, Nat.reduceAdd, Option.toList_none, Option.toList_some]
  refine am_B.run (hp := false) (sp := []) 200 rfl ?_
  refine am_B.newI (rc := 5) (rs := 9200) (n := 200) rfl rfl aw_int rfl (Nat.le_of_ble_eq_true rfl) ?_
  simp only [ap_ass, List.length_append, List.length_set, List.length_cons, List.length_nil, List.set_cons_zero, List.set_cons_succ, List.cons_append, List.nil_append, Nat.add_zero, Nat.zero_add, Nat.reduceAdd, Option.toList_none, Option.toList_some]
  refine am_B.run (hp := false) (sp := []) 200 rfl ?_
  refine am_B.put rfl rfl rfl (ap_get (gs_s h53)) rfl (Nat.le_of_ble_eq_true rfl) rfl (fun _ => rfl) ?_
  rw [ap_set (gs_s h53), gs_ss]
  simp only [ap_ass, List.length_append, List.length_set, List.length_cons, List.length_nil, List.set_cons_zero, List.set_cons_succ, List.cons_append, List.nil_append, Nat.add_zero, Nat.zero_add, Nat.reduceAdd, Option.toList_none, Option.toList_some]
  refine am_B.run (hp := false) (sp := []) 200 rfl ?_
  refine am_B.newI (rc := 4) (rs := 7200) (n := 2000) rfl rfl aw_int rfl (Nat.le_of_ble_eq_true rfl) ?_
  simp only [ap_ass, List.length_append, List.length_set, List.length_cons, List.length_nil, List.set_cons_zero, List.set_cons_succ, List.cons_append, List.nil_append, Nat.add_zero, Nat.zero_add, Nat.reduceAdd, Option.toList_none, Option.toList_some]
  refine am_B.run (hp := false) (sp := []) 200 rfl ?_
  refine am_B.put rfl rfl rfl (ap_get (gs_s h53)) rfl (Nat.le_of_ble_eq_true rfl) rfl (fun _ => rfl) ?_
  rw [ap_set (gs_s h53), gs_ss]
  simp only [ap_ass, List.length_append, List.length_set, List.length_cons, List.length_nil, List.set_cons_zero, List.set_cons_succ, List.cons_append, List.nil_append, Nat.add_zero, Nat.zero_add, Nat.reduceAdd, Option.toList_none, Option.toList_some]
  refine am_B.run (hp := false) (sp := []) 200 rfl ?_
  refine am_B.newI (rc := 3) (rs := 5400) (n := 1800) rfl rfl aw_int rfl (Nat.le_of_ble_eq_true rfl) ?_
  simp only [ap_ass, List.length_append, List.length_set, List.length_cons, List.length_nil, List.set_cons_zero, List.set_cons_succ, List.cons_append, List.nil_append, Nat.add_zero, Nat.zero_add, Nat.reduceAdd, Option.toList_none, Option.toList_some]
  refine am_B.run (hp := false) (sp := []) 200 rfl ?_
  refine am_B.put rfl rfl rfl (ap_get (gs_s h53)) rfl (Nat.le_of_ble_eq_true rfl) rfl (fun _ => rfl) ?_
  rw [ap_set (gs_s h53), gs_ss]
  simp only [ap_ass, List.length_append, List.length_set, List.length_cons, List.length_nil, List.set_cons_zero, List.set_cons_succ, List.cons_append, List.nil_append, Nat.add_zero, Nat.zero_add, Nat.reduceAdd, Option.toList_none, Option.toList_some]
  refine am_B.run (hp := false) (sp := []) 200 rfl ?_
  refine am_B.newI (rc := 2) (rs := 3600) (n := 1800) rfl rfl aw_int rfl (Nat.le_of_ble_eq_true rfl) ?_
  simp only [ap_ass, List.length_append, List.length_set, List.length_cons, List.length_nil, List.set_cons_zero, List.set_cons_succ, List.cons_append, List.nil_append, Nat.add_zero, Nat.zero_add, Nat.reduceAdd, Option.toList_none, Option.toList_some]
  refine am_B.run (hp := false) (sp := []) 200 rfl ?_
  refine am_B.put rfl rfl rfl (ap_get (gs_s h53)) rfl (Nat.le_of_ble_eq_true rfl) rfl (fun _ => rfl) ?_
  rw [ap_set (gs_s h53), gs_ss]
  simp only [ap_ass, List.length_append, List.length_set, List.length_cons, List.length_nil, List.set_cons_zero, List.set_cons_succ, List.cons_append, List.nil_append, Nat.add_zero, Nat.zero_add, Nat.reduceAdd, Option.toList_none, Option.toList_some]
  refine am_B.run (hp := false) (sp := []) 200 rfl ?_
  refine am_B.newI (rc := 1) (rs := 1800) (n := 1800) rfl rfl aw_int rfl (Nat.le_of_ble_eq_true rfl) ?_
  simp only [ap_ass, List.length_append, List.length_set, List.length_cons, List.length_nil, List.set_cons_zero, List.set_cons_succ, List.cons_append, List.nil_append, Nat.add_zero, Nat.zero_add, Nat.reduceAdd, Option.toList_none, Option.toList_some]
  refine am_B.run (hp := false) (sp := []) 200 rfl ?_
  refine am_B.put rfl rfl rfl (ap_get (gs_s h53)) rfl (Nat.le_of_ble_eq_true rfl) rfl (fun _ => rfl) ?_
  rw [ap_set (gs_s h53), gs_ss]
  simp only [ap_ass, List.length_append, List.length_set, List.length_cons, List.length_nil, List.set_cons_zero, List.set_cons_succ, List.cons_append, List.nil_append, Nat.add_zero, Nat.zero_add, Nat.reduceAdd, Option.toList_none, Option.toList_some]
  refine am_B.run (hp := false) (sp := []) 200 rfl ?_
  refine am_B.newI (rc := 0) (rs := 0) (n := 1800) rfl rfl aw_int rfl (Nat.le_of_ble_eq_true rfl) ?_
  simp only [ap_ass, List.length_append, List.length_set, List.length_cons, List.length_nil, List.set_cons_zero, List.set_cons_succ, List.cons_append, List.nil_append, Nat.add_zero, Nat.zero_add, Nat.reduceAdd, Option.toList_none, Option.toList_some]
  refine am_B.run (hp := false) (sp := []) 200 rfl ?_
  refine am_B.put rfl rfl rfl (ap_get (gs_s h53)) rfl (Nat.le_of_ble_eq_true rfl) rfl (fun _ => rfl) ?_
  rw [ap_set (gs_s h53), gs_ss]
  simp only [ap_ass, List.length_append, List.length_set, List.length_cons, List.length_nil, List.set_cons_zero, List.set_cons_succ, List.cons_append, List.nil_append, Nat.add_zero, Nat.zero_add, Nat.reduceAdd, Option.toList_none, Option.toList_some]
  refine am_B.run (hp := false) (sp := []) 200 rfl ?_
  exact am_B.vret rfl rfl rfl ⟨rfl, rfl⟩
/-- the law's world as its loop begins -/
def HL (sc : am_C) : am_H := W0 sc ++ (c_M0 :: (mTs ++ [la fun _ => 0, da fun _ => 0]))
set_option maxRecDepth 100000 in
theorem HL_x (sc : am_C) : xF (HL sc) := ⟨Nat.le_of_ble_eq_true rfl, rfl, rfl, rfl, rfl, rfl, rfl, rfl, rfl, rfl, rfl, rfl, rfl, rfl, rfl, rfl, rfl, rfl, rfl, fun i hi => by
  obtain rfl | rfl | rfl | rfl | rfl | rfl | rfl | rfl : i = 0 ∨ i = 1 ∨ i = 2 ∨ i = 3 ∨ i = 4 ∨ i = 5 ∨ i = 6 ∨ i = 7 := by omega
  all_goals rfl, rfl⟩
set_option maxRecDepth 100000 in
theorem HL_m (sc : am_C) : mF (HL sc) := ⟨Nat.le_of_ble_eq_true rfl, rfl, rfl, rfl, rfl, rfl, rfl, rfl, rfl, rfl, rfl⟩
theorem HL_69 (sc : am_C) : (HL sc)[69]? = some (la fun _ => 0) := rfl
theorem HL_70 (sc : am_C) : (HL sc)[70]? = some (da fun _ => 0) := rfl
theorem HL_0 (sc : am_C) : (HL sc)[0]? = some sc := rfl
