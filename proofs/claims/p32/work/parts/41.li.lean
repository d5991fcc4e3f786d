/-! THE LAW, whole -/
theorem lc0_eq : (fun j => if j < 6 then nI 1 else 0 : Nat → Int32) = fun l => nI (lc0 l) := by
  funext j
  unfold lc0
  by_cases q : j < 6
  · rw [if_pos q, if_pos q]
  · rw [if_neg q, if_neg q]
    rfl
section LAW
variable {nm : String} {L : Nat} {xs : Nat → Int32} {sc : am_C}
/-- what the law knows of its world when the markings are there -/
theorem li_of {nt P T n : Nat} {gl gco gi go gft glt gb sz tm cnt rws tok gc ge gf tms : Nat → Int32} {LB : Nat → Nat → Int32} {trc : Nat → Option Nat} {E : am_H} {la : Int32} (hE : E.length = nt) :
    LI (n4 (XW sc 0 nt P T gl gco gi go gft glt gb sz tm LB cnt rws trc tok ++ (ia 8 tms :: E)) (c_MG (nI 1) (nI n) la) (ia 200 gc) (ia 200 ge) (ia 2000 gf)) sc nt n T P la gl gf gco ge rws cnt trc sz tm LB E 0 := by
  have hl : 12 < (XW sc 0 nt P T gl gco gi go gft glt gb sz tm LB cnt rws trc tok ++ (ia 8 tms :: E)).length := by rw [xe_len]; omega
  have k : ∀ a x, (a < 9 ∨ 12 < a) → (XW sc 0 nt P T gl gco gi go gft glt gb sz tm LB cnt rws trc tok ++ (ia 8 tms :: E))[a]? = x → (n4 (XW sc 0 nt P T gl gco gi go gft glt gb sz tm LB cnt rws trc tok ++ (ia 8 tms :: E)) (c_MG (nI 1) (nI n) la) (ia 200 gc) (ia 200 ge) (ia 2000 gf))[a]? = x :=
    fun a x ha hx => (n4_o (by omega) (by omega) (by omega) (by omega)).trans hx
  refine ⟨?_, k _ _ (by decide) xw_g0, k _ _ (by decide) xw_g1, k _ _ (by decide) xw_g4, n4_11 hl, ⟨_, k _ _ (by decide) xw_g15⟩, fun j hj => ⟨_, k _ _ (by omega) (xw_row hj)⟩, ⟨gb, k _ _ (by decide) xw_g26⟩, k _ _ (by decide) xw_g27, k _ _ (by decide) xw_g53, k _ _ (by decide) xw_g54, k _ _ (by decide) xw_g55,
    ⟨k _ _ (by decide) xw_g2, k _ _ (by decide) xw_g3, n4_9 hl, n4_12 hl, k _ _ (by decide) (by rw [xw_g13, lc0_eq]), k _ _ (by decide) xw_g14, k _ _ (by decide) xw_g16⟩, fun j hj => k _ _ (by omega) (xw_gL hj), fun j _ hj => ⟨k _ _ (by omega) (xw_gT hj), k _ _ (by omega) (xw_gP hj)⟩, fun j hj => k _ _ (by omega) xe_g⟩
  unfold n4
  rw [List.length_set, List.length_set, List.length_set, List.length_set, xe_len, hE]
  exact Nat.le_refl _
end LAW
