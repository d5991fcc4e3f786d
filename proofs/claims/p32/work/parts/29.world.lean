/-! THE WORLD while the law builds a net and stores traces (53 the counts, 54 the rows, 55 the traces, 56 the tokens), by program (wip/tools/genxw.py) -/
def XW (sc : am_C) (nb : Nat) (nt : Nat) (P : Nat) (T : Nat) (gl : Nat → Int32) (gco : Nat → Int32) (gi : Nat → Int32) (go : Nat → Int32) (gft : Nat → Int32) (glt : Nat → Int32) (gb : Nat → Int32) (sz : Nat → Int32) (tm : Nat → Int32) (LB : Nat → Nat → Int32) (cnt : Nat → Int32) (rws : Nat → Int32) (trc : Nat → Option Nat) (tok : Nat → Int32) : am_H := [sc, c_TA (nI nb) (nI nt), c_NT (nI P) (nI T), ia 10 gl, ia 10 gco, ia 10 gi, ia 10 go, ia 8 gft, ia 8 glt, c_MG 0 0 0, z_ 200, z_ 200, z_ 2000, ia 6 (fun j => if j < 6 then nI 1 else 0), c_PF, z_ 10, ra 5 9 rs_, z_ 200, z_ 200, z_ 200, z_ 200, z_ 200, z_ 200, z_ 200, z_ 200, z_ 200, ia 8 gb, ra 4 8 ts_, c_TR 0 (sz 0) (tm 0) (nI 0) 0 0 0 30, ia 8 (LB 0), z_ 16, c_TR 1 (sz 1) (tm 1) (nI 0) 0 0 0 33, ia 8 (LB 1), z_ 16, c_TR 2 (sz 2) (tm 2) (nI 0) 0 0 0 36, ia 8 (LB 2), z_ 16, c_TR 3 (sz 3) (tm 3) (nI 0) 0 0 0 39, ia 8 (LB 3), z_ 16, c_TR 4 (sz 4) (tm 4) (nI 0) 0 0 0 42, ia 8 (LB 4), z_ 16, c_TR 5 (sz 5) (tm 5) (nI 0) 0 0 0 45, ia 8 (LB 5), z_ 16, c_TR 6 (sz 6) (tm 6) (nI 0) 0 0 0 48, ia 8 (LB 6), z_ 16, c_TR 7 (sz 7) (tm 7) (nI 0) 0 0 0 51, ia 8 (LB 7), z_ 16, z_ 200, ia 2 cnt, ia 40 rws, ra 5 8 trc, ia 16 tok]
section XW
variable {sc : am_C} {nb nt P T nb' nt' P' T' : Nat} {gl gco gi go gft glt gb sz tm cnt rws tok g : Nat → Int32} {LB : Nat → Nat → Int32} {trc trc' : Nat → Option Nat} {ext : am_H}
theorem xw_s1 : (XW sc nb nt P T gl gco gi go gft glt gb sz tm LB cnt rws trc tok ++ ext).set 1 (c_TA (nI nb') (nI nt')) = XW sc (nb') (nt') P T gl gco gi go gft glt gb sz tm LB cnt rws trc tok ++ ext := rfl
theorem xw_s2 : (XW sc nb nt P T gl gco gi go gft glt gb sz tm LB cnt rws trc tok ++ ext).set 2 (c_NT (nI P') (nI T')) = XW sc nb nt (P') (T') gl gco gi go gft glt gb sz tm LB cnt rws trc tok ++ ext := rfl
theorem xw_s3 : (XW sc nb nt P T gl gco gi go gft glt gb sz tm LB cnt rws trc tok ++ ext).set 3 (ia 10 g) = XW sc nb nt P T (g) gco gi go gft glt gb sz tm LB cnt rws trc tok ++ ext := rfl
theorem xw_s4 : (XW sc nb nt P T gl gco gi go gft glt gb sz tm LB cnt rws trc tok ++ ext).set 4 (ia 10 g) = XW sc nb nt P T gl (g) gi go gft glt gb sz tm LB cnt rws trc tok ++ ext := rfl
theorem xw_s5 : (XW sc nb nt P T gl gco gi go gft glt gb sz tm LB cnt rws trc tok ++ ext).set 5 (ia 10 g) = XW sc nb nt P T gl gco (g) go gft glt gb sz tm LB cnt rws trc tok ++ ext := rfl
theorem xw_s6 : (XW sc nb nt P T gl gco gi go gft glt gb sz tm LB cnt rws trc tok ++ ext).set 6 (ia 10 g) = XW sc nb nt P T gl gco gi (g) gft glt gb sz tm LB cnt rws trc tok ++ ext := rfl
theorem xw_s7 : (XW sc nb nt P T gl gco gi go gft glt gb sz tm LB cnt rws trc tok ++ ext).set 7 (ia 8 g) = XW sc nb nt P T gl gco gi go (g) glt gb sz tm LB cnt rws trc tok ++ ext := rfl
theorem xw_s8 : (XW sc nb nt P T gl gco gi go gft glt gb sz tm LB cnt rws trc tok ++ ext).set 8 (ia 8 g) = XW sc nb nt P T gl gco gi go gft (g) gb sz tm LB cnt rws trc tok ++ ext := rfl
theorem xw_s26 : (XW sc nb nt P T gl gco gi go gft glt gb sz tm LB cnt rws trc tok ++ ext).set 26 (ia 8 g) = XW sc nb nt P T gl gco gi go gft glt (g) sz tm LB cnt rws trc tok ++ ext := rfl
theorem xw_s53 : (XW sc nb nt P T gl gco gi go gft glt gb sz tm LB cnt rws trc tok ++ ext).set 53 (ia 2 g) = XW sc nb nt P T gl gco gi go gft glt gb sz tm LB (g) rws trc tok ++ ext := rfl
theorem xw_s54 : (XW sc nb nt P T gl gco gi go gft glt gb sz tm LB cnt rws trc tok ++ ext).set 54 (ia 40 g) = XW sc nb nt P T gl gco gi go gft glt gb sz tm LB cnt (g) trc tok ++ ext := rfl
theorem xw_s56 : (XW sc nb nt P T gl gco gi go gft glt gb sz tm LB cnt rws trc tok ++ ext).set 56 (ia 16 g) = XW sc nb nt P T gl gco gi go gft glt gb sz tm LB cnt rws trc (g) ++ ext := rfl
theorem xw_s55 : (XW sc nb nt P T gl gco gi go gft glt gb sz tm LB cnt rws trc tok ++ ext).set 55 (ra 5 8 trc') = XW sc nb nt P T gl gco gi go gft glt gb sz tm LB cnt rws (trc') tok ++ ext := rfl
theorem xw_g0 : (XW sc nb nt P T gl gco gi go gft glt gb sz tm LB cnt rws trc tok ++ ext)[0]? = some (sc) := rfl
theorem xw_g1 : (XW sc nb nt P T gl gco gi go gft glt gb sz tm LB cnt rws trc tok ++ ext)[1]? = some (c_TA (nI nb) (nI nt)) := rfl
theorem xw_g2 : (XW sc nb nt P T gl gco gi go gft glt gb sz tm LB cnt rws trc tok ++ ext)[2]? = some (c_NT (nI P) (nI T)) := rfl
theorem xw_g3 : (XW sc nb nt P T gl gco gi go gft glt gb sz tm LB cnt rws trc tok ++ ext)[3]? = some (ia 10 gl) := rfl
theorem xw_g4 : (XW sc nb nt P T gl gco gi go gft glt gb sz tm LB cnt rws trc tok ++ ext)[4]? = some (ia 10 gco) := rfl
theorem xw_g5 : (XW sc nb nt P T gl gco gi go gft glt gb sz tm LB cnt rws trc tok ++ ext)[5]? = some (ia 10 gi) := rfl
theorem xw_g6 : (XW sc nb nt P T gl gco gi go gft glt gb sz tm LB cnt rws trc tok ++ ext)[6]? = some (ia 10 go) := rfl
theorem xw_g7 : (XW sc nb nt P T gl gco gi go gft glt gb sz tm LB cnt rws trc tok ++ ext)[7]? = some (ia 8 gft) := rfl
theorem xw_g8 : (XW sc nb nt P T gl gco gi go gft glt gb sz tm LB cnt rws trc tok ++ ext)[8]? = some (ia 8 glt) := rfl
theorem xw_g9 : (XW sc nb nt P T gl gco gi go gft glt gb sz tm LB cnt rws trc tok ++ ext)[9]? = some (c_MG 0 0 0) := rfl
theorem xw_g10 : (XW sc nb nt P T gl gco gi go gft glt gb sz tm LB cnt rws trc tok ++ ext)[10]? = some (z_ 200) := rfl
theorem xw_g11 : (XW sc nb nt P T gl gco gi go gft glt gb sz tm LB cnt rws trc tok ++ ext)[11]? = some (z_ 200) := rfl
theorem xw_g12 : (XW sc nb nt P T gl gco gi go gft glt gb sz tm LB cnt rws trc tok ++ ext)[12]? = some (z_ 2000) := rfl
theorem xw_g13 : (XW sc nb nt P T gl gco gi go gft glt gb sz tm LB cnt rws trc tok ++ ext)[13]? = some (ia 6 (fun j => if j < 6 then nI 1 else 0)) := rfl
theorem xw_g14 : (XW sc nb nt P T gl gco gi go gft glt gb sz tm LB cnt rws trc tok ++ ext)[14]? = some (c_PF) := rfl
theorem xw_g15 : (XW sc nb nt P T gl gco gi go gft glt gb sz tm LB cnt rws trc tok ++ ext)[15]? = some (z_ 10) := rfl
theorem xw_g16 : (XW sc nb nt P T gl gco gi go gft glt gb sz tm LB cnt rws trc tok ++ ext)[16]? = some (ra 5 9 rs_) := rfl
theorem xw_g26 : (XW sc nb nt P T gl gco gi go gft glt gb sz tm LB cnt rws trc tok ++ ext)[26]? = some (ia 8 gb) := rfl
theorem xw_g27 : (XW sc nb nt P T gl gco gi go gft glt gb sz tm LB cnt rws trc tok ++ ext)[27]? = some (ra 4 8 ts_) := rfl
theorem xw_g53 : (XW sc nb nt P T gl gco gi go gft glt gb sz tm LB cnt rws trc tok ++ ext)[53]? = some (ia 2 cnt) := rfl
theorem xw_g54 : (XW sc nb nt P T gl gco gi go gft glt gb sz tm LB cnt rws trc tok ++ ext)[54]? = some (ia 40 rws) := rfl
theorem xw_g55 : (XW sc nb nt P T gl gco gi go gft glt gb sz tm LB cnt rws trc tok ++ ext)[55]? = some (ra 5 8 trc) := rfl
theorem xw_g56 : (XW sc nb nt P T gl gco gi go gft glt gb sz tm LB cnt rws trc tok ++ ext)[56]? = some (ia 16 tok) := rfl
theorem xw_len : (XW sc nb nt P T gl gco gi go gft glt gb sz tm LB cnt rws trc tok).length = 57 := rfl
theorem xw_ge (k : Nat) : (XW sc nb nt P T gl gco gi go gft glt gb sz tm LB cnt rws trc tok ++ ext)[k + 57]? = ext[k]? := by
  rw [List.getElem?_append_right (by rw [xw_len]; omega), xw_len, Nat.add_sub_cancel]
theorem xw_se (k : Nat) (x : am_C) : (XW sc nb nt P T gl gco gi go gft glt gb sz tm LB cnt rws trc tok ++ ext).set (k + 57) x = XW sc nb nt P T gl gco gi go gft glt gb sz tm LB cnt rws trc tok ++ ext.set k x := by
  rw [List.set_append_right _ _ (by rw [xw_len]; omega), xw_len, Nat.add_sub_cancel]
theorem xw_gT {k : Nat} (hk : k < 8) : (XW sc nb nt P T gl gco gi go gft glt gb sz tm LB cnt rws trc tok ++ ext)[28 + 3 * k]? = some (c_TR k (sz k) (tm k) (nI 0) 0 0 0 (30 + 3 * k)) := by
  obtain rfl | rfl | rfl | rfl | rfl | rfl | rfl | rfl : k = 0 ∨ k = 1 ∨ k = 2 ∨ k = 3 ∨ k = 4 ∨ k = 5 ∨ k = 6 ∨ k = 7 := by omega
  all_goals rfl
theorem xw_gL {k : Nat} (hk : k < 8) : (XW sc nb nt P T gl gco gi go gft glt gb sz tm LB cnt rws trc tok ++ ext)[29 + 3 * k]? = some (ia 8 (LB k)) := by
  obtain rfl | rfl | rfl | rfl | rfl | rfl | rfl | rfl : k = 0 ∨ k = 1 ∨ k = 2 ∨ k = 3 ∨ k = 4 ∨ k = 5 ∨ k = 6 ∨ k = 7 := by omega
  all_goals rfl
theorem xw_gP {k : Nat} (hk : k < 8) : (XW sc nb nt P T gl gco gi go gft glt gb sz tm LB cnt rws trc tok ++ ext)[30 + 3 * k]? = some (z_ 16) := by
  obtain rfl | rfl | rfl | rfl | rfl | rfl | rfl | rfl : k = 0 ∨ k = 1 ∨ k = 2 ∨ k = 3 ∨ k = 4 ∨ k = 5 ∨ k = 6 ∨ k = 7 := by omega
  all_goals rfl
theorem xw_sT {k : Nat} (hk : k < 8) {a b : Int32} : (XW sc nb nt P T gl gco gi go gft glt gb sz tm LB cnt rws trc tok ++ ext).set (28 + 3 * k) (c_TR k a b (nI 0) 0 0 0 (30 + 3 * k)) = XW sc nb nt P T gl gco gi go gft glt gb (upd sz k a) (upd tm k b) LB cnt rws trc tok ++ ext := by
  obtain rfl | rfl | rfl | rfl | rfl | rfl | rfl | rfl : k = 0 ∨ k = 1 ∨ k = 2 ∨ k = 3 ∨ k = 4 ∨ k = 5 ∨ k = 6 ∨ k = 7 := by omega
  all_goals rfl
theorem xw_sL {k : Nat} (hk : k < 8) {g : Nat → Int32} : (XW sc nb nt P T gl gco gi go gft glt gb sz tm LB cnt rws trc tok ++ ext).set (29 + 3 * k) (ia 8 g) = XW sc nb nt P T gl gco gi go gft glt gb sz tm (fun j => if j = k then g else LB j) cnt rws trc tok ++ ext := by
  obtain rfl | rfl | rfl | rfl | rfl | rfl | rfl | rfl : k = 0 ∨ k = 1 ∨ k = 2 ∨ k = 3 ∨ k = 4 ∨ k = 5 ∨ k = 6 ∨ k = 7 := by omega
  all_goals rfl
theorem xw_row {j : Nat} (hj : j < 9) : (XW sc nb nt P T gl gco gi go gft glt gb sz tm LB cnt rws trc tok ++ ext)[17 + j]? = some (z_ 200) := by
  obtain rfl | rfl | rfl | rfl | rfl | rfl | rfl | rfl | rfl : j = 0 ∨ j = 1 ∨ j = 2 ∨ j = 3 ∨ j = 4 ∨ j = 5 ∨ j = 6 ∨ j = 7 ∨ j = 8 := by omega
  all_goals rfl
theorem xw_calm : calm (XW sc nb nt P T gl gco gi go gft glt gb sz tm LB cnt rws trc tok ++ ext) := ⟨xw_g27, ⟨0, 0, xw_g9⟩, fun i hi => ⟨_, _, _, _, _, _, xw_gT hi⟩⟩
end XW
theorem xw_W0 (sc : am_C) : W0 sc ++ [ia 2 fun _ => 0, ia 40 fun _ => 0, ra 5 8 fun _ => none, ia 16 fun _ => 0] = XW sc 0 0 0 0 (fun _ => 0) (fun _ => 0) (fun _ => 0) (fun _ => 0) (fun _ => 0) (fun _ => 0) (fun _ => 0) (fun _ => 0) (fun _ => 0) (fun _ _ => 0) (fun _ => 0) (fun _ => 0) (fun _ => none) (fun _ => 0) := rfl
