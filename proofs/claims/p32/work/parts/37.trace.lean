/-! THE LAW AND THE STORED TRACES, one by one -/
def LI (h : am_H) (sc : am_C) (many n T P : Nat) (la : Int32) (gl gf gco ge rws cnt : Nat → Int32) (trc : Nat → Option Nat) (sz tm : Nat → Int32) (LB : Nat → Nat → Int32) (E : am_H) (cur : Nat) : Prop :=
  58 + many ≤ h.length ∧ h[0]? = some sc ∧ h[1]? = some (c_TA (nI 0) (nI many)) ∧ h[4]? = some (ia 10 gco) ∧ h[11]? = some (ia 200 ge) ∧ (∃ g, h[15]? = some (ia 10 g)) ∧ rowsOK h ∧ (∃ gb, h[26]? = some (ia 8 gb)) ∧ h[27]? = some (ra 4 8 ts_) ∧ h[53]? = some (ia 2 cnt) ∧ h[54]? = some (ia 40 rws) ∧ h[55]? = some (ra 5 8 trc) ∧
  pfW h n T (nI P) (nI 1) la gl gf lc0 ∧ (∀ j, j < 8 → h[29 + 3 * j]? = some (ia 8 (LB j))) ∧ (∀ j, cur ≤ j → j < 8 → h[28 + 3 * j]? = some (c_TR j (sz j) (tm j) (nI 0) 0 0 0 (30 + 3 * j)) ∧ h[30 + 3 * j]? = some (z_ 16)) ∧ ∀ j, j < many → h[58 + j]? = E[j]?
section LIS
variable {h h' : am_H} {sc : am_C} {many n T P : Nat} {la : Int32} {gl gf gco ge rws cnt : Nat → Int32} {trc : Nat → Option Nat} {sz tm : Nat → Int32} {LB : Nat → Nat → Int32} {E : am_H} {cur : Nat}
/-- what an alignment of trace cur leaves -/
theorem LI.keep (I : LI h sc many n T P la gl gf gco ge rws cnt trc sz tm LB E cur) (hc : cur < 8) (f : am_gr (fun a => pfC a ∨ a = 28 + 3 * cur ∨ a = 30 + 3 * cur) h h') (h15 : ∃ g, h'[15]? = some (ia 10 g)) (hr : rowsOK h') : LI h' sc many n T P la gl gf gco ge rws cnt trc sz tm LB E (cur + 1) := by
  obtain ⟨i0, i1, i2, i3, i4, i5, i6, i7, i8, i9, i10, i11, W, i13, i14, i15⟩ := I
  have hl8 : 51 < h.length := by
    have := (List.getElem?_eq_some_iff.mp i10).1
    omega
  have k : ∀ a x, ¬ pfC a → a ≠ 28 + 3 * cur → a ≠ 30 + 3 * cur → h[a]? = some x → h'[a]? = some x := fun a x n1 n2 n3 hx => (f.2 a (List.getElem?_eq_some_iff.mp hx).1 (fun q => by rcases q with q | q | q; exact n1 q; exact n2 q; exact n3 q)).trans hx
  have kl : ∀ a x, a < 17 → a ≠ 15 → h[a]? = some x → h'[a]? = some x := fun a x n1 n2 hx => k a x (fun q => by unfold pfC at q; omega) (by omega) (by omega) hx
  have ku : ∀ a x, 52 ≤ a → h[a]? = some x → h'[a]? = some x := fun a x n1 hx => k a x (fun q => by unfold pfC at q; omega) (by omega) (by omega) hx
  obtain ⟨w2, w3, w9, w12, w13, w14, w16⟩ := W
  refine ⟨Nat.le_trans i0 f.1, kl _ _ (by decide) (by decide) i1, kl _ _ (by decide) (by decide) i2, kl _ _ (by decide) (by decide) i3, kl _ _ (by decide) (by decide) i4, h15, hr, ?_, ?_, ku _ _ (by decide) i9, ku _ _ (by decide) i10, ku _ _ (by decide) i11,
    ⟨kl _ _ (by decide) (by decide) w2, kl _ _ (by decide) (by decide) w3, kl _ _ (by decide) (by decide) w9, kl _ _ (by decide) (by decide) w12, kl _ _ (by decide) (by decide) w13, kl _ _ (by decide) (by decide) w14, kl _ _ (by decide) (by decide) w16⟩, ?_, ?_, ?_⟩
  · exact i7.imp fun g z => k _ _ (fun q => by unfold pfC at q; omega) (by omega) (by omega) z
  · exact k _ _ (fun q => by unfold pfC at q; omega) (by omega) (by omega) i8
  · exact fun j hj => k _ _ (fun q => by unfold pfC at q; omega) (by omega) (by omega) (i13 j hj)
  · exact fun j h1 h2 => ⟨k _ _ (fun q => by unfold pfC at q; omega) (by omega) (by omega) (i14 j (by omega) h2).1, k _ _ (fun q => by unfold pfC at q; omega) (by omega) (by omega) (i14 j (by omega) h2).2⟩
  · intro j hj
    rw [← i15 j hj]
    exact f.2 (58 + j) (by omega) (fun q => by unfold pfC at q; omega)
/-- what counting steps leaves -/
theorem LI.fr (I : LI h sc many n T P la gl gf gco ge rws cnt trc sz tm LB E cur) (f : am_fr pfC h h') (h15 : ∃ g, h'[15]? = some (ia 10 g)) (hr : rowsOK h') : LI h' sc many n T P la gl gf gco ge rws cnt trc sz tm LB E cur := by
  obtain ⟨i0, i1, i2, i3, i4, i5, i6, i7, i8, i9, i10, i11, W, i13, i14, i15⟩ := I
  have k : ∀ a x, ¬ pfC a → h[a]? = some x → h'[a]? = some x := fun a x n1 hx => (f.2 a n1).trans hx
  have kl : ∀ a x, (a < 17 ∧ a ≠ 15) ∨ 26 ≤ a → h[a]? = some x → h'[a]? = some x := fun a x n1 hx => k a x (fun q => by unfold pfC at q; omega) hx
  refine ⟨by rw [f.1]; exact i0, kl _ _ (by omega) i1, kl _ _ (by omega) i2, kl _ _ (by omega) i3, kl _ _ (by omega) i4, h15, hr, i7.imp fun g z => kl _ _ (by omega) z, kl _ _ (by omega) i8, kl _ _ (by omega) i9, kl _ _ (by omega) i10, kl _ _ (by omega) i11, W.fr f, fun j hj => kl _ _ (by omega) (i13 j hj),
    fun j h1 h2 => ⟨kl _ _ (by omega) (i14 j h1 h2).1, kl _ _ (by omega) (i14 j h1 h2).2⟩, fun j hj => ?_⟩
  rw [← i15 j hj]
  exact f.2 (58 + j) (fun q => by unfold pfC at q; omega)
end LIS
