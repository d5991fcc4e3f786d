/-! one cell of the script on the stack -/
set_option maxRecDepth 100000 in
set_option maxHeartbeats 4000000 in
theorem lw_ld {rows : List am_Row} {nm : String} {x y z : Option Value} {st : List Value} {h : am_H} {rc rs : Nat} {xs : Nat → Int32} {j : Nat} {v : Int32} {i3 : Instr} (pc q : Nat)
    (f1 : am_find rows pc = some (pc, .aload_n 0, pc + 1, 0, .null)) (f2 : am_find rows (pc + 1) = some (pc + 1, .iload 5, pc + 3, 0, .null)) (f3 : am_find rows (pc + 3) = some (pc + 3, i3, pc + 4, 0, .int (nI j)))
    (p3 : ∀ (lo : am_L) (st : List Value), am_pure (pc + 3, i3, pc + 4, 0, .int (nI j)) lo st = some (pc + 4, lo, .int (nI j) :: st)) (f4 : am_find rows (pc + 4) = some (pc + 4, .iadd, pc + 5, 0, .null)) (f5 : am_find rows (pc + 5) = some (pc + 5, .iaload, q, 0, .null))
    (hj : j < 5) (h0 : h[0]? = some (.inl (99, 5, .inl xs))) (hv : xs j = v) (k : am_B (E_LWk rows nm) room_1 lZ q [some (.ref 0), some (.ref 1), some (.ref 53), some (.ref 69), some (.ref 70), some (.int (nI 0)), x, y, z] (.int v :: st) h rc rs) : am_B (E_LWk rows nm) room_1 lZ pc [some (.ref 0), some (.ref 1), some (.ref 53), some (.ref 69), some (.ref 70), some (.int (nI 0)), x, y, z] st h rc rs := by
  refine am_B.pure f1 rfl ?_
  refine am_B.pure f2 rfl ?_
  refine am_B.pure f3 (p3 _ _) ?_
  refine am_B.pure f4 (show _ = some (pc + 5, [some (.ref 0), some (.ref 1), some (.ref 53), some (.ref 69), some (.ref 70), some (.int (nI 0)), x, y, z], .int (nI 0 + nI j) :: .ref 0 :: st) from rfl) ?_
  rw [show nI 0 + nI j = nI j by rw [nI_add, Nat.zero_add]]
  refine am_B.ald f5 h0 (vp_nI (n := 5) hj (Nat.le_of_ble_eq_true rfl)) (show _ = some (.int (xs j)) by rw [nI_clamp (show j < 2 ^ 31 by omega)]; rfl) ?_
  rw [hv]
  exact k
