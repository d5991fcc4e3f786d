/-! from the law's entry on -/
section LAW
variable {nm : String} {L : Nat} {xs : Nat → Int32} {sc : am_C}
theorem w0_l0 (sc : am_C) : (W0 sc).length = 53 := rfl
theorem w0_l1 (sc a : am_C) : (W0 sc ++ [a]).length = 54 := rfl
theorem w0_l2 (sc a b : am_C) : (W0 sc ++ [a] ++ [b]).length = 55 := rfl
theorem w0_l3 (sc a b c : am_C) : (W0 sc ++ [a] ++ [b] ++ [c]).length = 56 := rfl
theorem w0_xw (sc : am_C) : W0 sc ++ [ia 2 fun _ => 0] ++ [ia 40 fun _ => 0] ++ [ra 5 8 fun _ => none] ++ [ia 16 fun _ => 0] = bH sc 0 0 z0 z0 z0 z0 z0 z0 z0 z0 z0 [] := rfl
set_option maxRecDepth 100000 in
set_option maxHeartbeats 4000000 in
theorem lw_law (nm : String) (hsc : sc = .inl (99, L, .inl xs)) (hL : L < 2 ^ 31) : lB nm 0 (am_lo0 [.ref 0] 14) [] [sc] 600104 7301314 := by
  refine am_B.more (rc := 64) (rs := 19271) ?_ (by decide) (by decide)
  refine am_B.new (rc := 63) (rs := 19262) (q := (20, 0, [.null, .null, .null, .null, .null, .int 0, .null, .int 0, .null])) rfl rfl rfl ?_
  refine am_B.run (hp := false) (sp := []) 200 rfl ?_
  refine am_B.callI (rc := 12) (rs := 14489) (ci := 0) (n := 0) (as := []) rfl rfl rfl (ct_TA_init sc) rfl (by rfl) (by exact Nat.le_of_ble_eq_true rfl) (by rfl) (by rfl) (by rfl) (fun v h' q => ?_)
  obtain ⟨rfl, rfl⟩ := q
  refine am_B.run (hp := false) (sp := []) 200 rfl ?_
  refine am_B.newI (rc := 11) (rs := 14487) (n := 2) rfl rfl aw_int rfl (Nat.le_of_ble_eq_true rfl) ?_
  rw [w0_l0]
  refine am_B.run (hp := false) (sp := []) 200 rfl ?_
  refine am_B.newI (rc := 10) (rs := 14447) (n := 40) rfl rfl aw_int rfl (Nat.le_of_ble_eq_true rfl) ?_
  rw [w0_l1]
  refine am_B.run (hp := false) (sp := []) 200 rfl ?_
  refine am_B.newA (rc := 9) (rs := 14439) (n := 8) rfl rfl lw_LW_53 rfl (Nat.le_of_ble_eq_true rfl) ?_
  rw [w0_l2]
  refine am_B.run (hp := false) (sp := []) 200 rfl ?_
  refine am_B.newI (rc := 8) (rs := 14423) (n := 16) rfl rfl aw_int rfl (Nat.le_of_ble_eq_true rfl) ?_
  rw [w0_l3, w0_xw]
  show lB nm 33 [some (.ref 0), some (.ref 1), some (.ref 53), some (.ref 54), some (.ref 55), none, none, none, none, none, none, none, none, none] [.ref 56, .ref 54, .ref 53, .int (nI 0), .ref 0, .ref 1] (bH sc 0 0 z0 z0 z0 z0 z0 z0 z0 z0 z0 []) 8 14423
  refine am_B.callS (rc := 8) (rs := 14423) (ci := 0) (n := 6) (as := [.ref 1, .ref 0, .int (nI 0), .ref 53, .ref 54, .ref 56]) rfl rfl rfl (ct_LW_build L xs sc hsc hL []) rfl rfl (by exact Nat.le_of_ble_eq_true rfl) rfl rfl rfl (fun v h' z => ?_)
  obtain ⟨rfl, P, T, gl, gco, gi, go, gft, glt, cnt, rws, tok, rfl, hP, hT, hc1, hrow⟩ := z
  refine am_B.if_ne rfl rfl (fun _ => ?_) (fun z => absurd z (by decide))
  refine am_B.run (hp := false) (sp := []) 200 rfl ?_
  refine am_B.newI (rc := 7) (rs := 14415) (n := 8) rfl rfl aw_int rfl (Nat.le_of_ble_eq_true rfl) ?_
  show lB nm 52 [some (.ref 0), some (.ref 1), some (.ref 53), some (.ref 54), some (.ref 55), none, none, none, none, none, none, none, none, none] [.ref 57, .ref 55, .int (nI 3), .int (nI 9), .ref 0, .ref 1] (XW sc 0 0 P T gl gco gi go gft glt z0 z0 z0 (fun _ _ => 0) cnt rws (fun _ => none) tok ++ (ia 8 z0 :: [])) 7 14415
  refine am_B.callS (rc := 4) (rs := 14400) (ci := 0) (n := 6) (as := [.ref 1, .ref 0, .int (nI 9), .int (nI 3), .ref 55, .ref 57]) rfl rfl rfl (ct_LW_traces L xs sc hsc hL P T gl gco gi go gft glt cnt rws tok) rfl rfl (by exact Nat.le_of_ble_eq_true rfl) rfl rfl rfl (fun v h' z => ?_)
  obtain ⟨many, gb, sz, tm, LB, trc, tms, E, hm1, hm, rfl, hEl, rfl, hE⟩ := z
  refine am_B.run (hp := false) (sp := []) 200 rfl ?_
  refine am_B.if_ge rfl rfl (fun _ => ?_) (fun z => absurd (nI_le (Nat.zero_le many) (by omega)) z)
  exact am_B.more (rc := many + 1) (rs := 3600 * (many + 1)) (lw_built hsc hL hm1 hm hP hT hc1 hrow hEl hE rfl rfl _ _ _ _ _ _ _ _) (by omega) (by omega)
end LAW
