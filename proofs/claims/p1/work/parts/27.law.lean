/-! from the law's entry on -/
theorem w0_l0 (sc : am_C) : (W0 sc).length = 53 := rfl
set_option maxRecDepth 100000 in
set_option maxHeartbeats 4000000 in
theorem w0_mo (sc c c' : am_C) : (W0 sc ++ [c]).set 53 c' ++ mTs = W0 sc ++ (c' :: mTs) := rfl
theorem w0_l1 (sc c : am_C) : (W0 sc ++ (c :: mTs)).length = 69 := rfl
theorem w0_l2 (sc c d : am_C) : (W0 sc ++ (c :: mTs) ++ [d]).length = 70 := rfl
theorem w0_xw (sc : am_C) : W0 sc ++ ((.inr (5, [.int 0, .int 0, .int 0, .ref 54, .ref 55, .ref 56, .ref 57, .int 0, .int 0, .ref 58, .int 0, .ref 59, .int 0, .ref 60, .ref 61, .ref 62, .int 0, .int 0, .int 0, .ref 63, .ref 64, .ref 65, .int 0, .int 0, .int 0, .ref 66, .ref 67, .ref 68, .int 0])) :: mTs) ++ [.inl (2, 1, .inr (.inl fun _ => 0))] ++ [.inl (3, 1, .inr (.inr (.inr (.inl fun _ => 0))))] = HL sc := rfl
set_option maxRecDepth 100000 in
set_option maxHeartbeats 4000000 in
theorem lw_law (nm : String) (L : Nat) (xs : Nat → Int32) (hL : L ≤ 5) : lB nm 0 (am_lo0 [.ref 0] 9) [] [.inl (99, L, .inl xs)] 600002 7302232 := by
  refine am_B.more (rc := 73) (rs := 14753) ?_ (by decide) (by decide)
  refine am_B.new (rc := 72) (rs := 14744) (q := (8, 0, [.null, .null, .null, .null, .null, .int 0, .null, .int 0, .null])) rfl rfl rfl ?_
  refine am_B.run (hp := false) (sp := []) 200 rfl ?_
  refine am_B.callI (rc := 21) (rs := 9971) (ci := 0) (n := 0) (as := []) rfl rfl rfl (ct_TA_init _) rfl (by rfl) (by exact Nat.le_of_ble_eq_true rfl) (by rfl) (by rfl) (by rfl) (fun v h' q => ?_)
  obtain ⟨rfl, rfl⟩ := q
  refine am_B.run (hp := false) (sp := []) 200 rfl ?_
  refine am_B.new (rc := 20) (rs := 9942) (q := (105, 5, [.int 0, .int 0, .int 0, .null, .null, .null, .null, .int 0, .int 0, .null, .int 0, .null, .int 0, .null, .null, .null, .int 0, .int 0, .int 0, .null, .null, .null, .int 0, .int 0, .int 0, .null, .null, .null, .int 0])) rfl rfl rfl ?_
  rw [w0_l0]
  refine am_B.run (hp := false) (sp := []) 200 rfl ?_
  refine am_B.callI (rc := 5) (rs := 408) (ci := 5) (n := 0) (as := []) rfl rfl rfl (ct_MO_init _ rfl) rfl (by rfl) (by exact Nat.le_of_ble_eq_true rfl) (by rfl) (by rfl) (by rfl) (fun v h' q => ?_)
  obtain ⟨rfl, rfl⟩ := q
  rw [w0_mo]
  refine am_B.run (hp := false) (sp := []) 200 rfl ?_
  refine am_B.newJ (rc := 4) (rs := 407) (n := 1) rfl rfl rfl aw_long rfl (Nat.le_of_ble_eq_true rfl) ?_
  rw [w0_l1]
  refine am_B.run (hp := false) (sp := []) 200 rfl ?_
  refine am_B.newD (rc := 3) (rs := 406) (n := 1) rfl rfl rfl aw_double rfl (Nat.le_of_ble_eq_true rfl) ?_
  rw [w0_l2]
  refine am_B.run (hp := false) (sp := [28]) 200 rfl ?_
  show lB nm 28 [some (.ref 0), some (.ref 1), some (.ref 53), some (.ref 69), some (.ref 70), some (.int (nI 0)), none, none, none] [] (HL (.inl (99, L, .inl xs))) 3 406
  by_cases e : L = 5
  · subst e
    exact lw_loop5 nm xs _ (HL_x _) (HL_m _) (HL_0 _) (HL_69 _) (HL_70 _)
  · exact lw_loop4 nm L xs _ (HL_0 _) (by omega)
