/-! RELAXING a row of weights over the transitions -/
abbrev FAR : Nat := 1073741824
/-- transition t leads from m to k -/
def Ed (n T : Nat) (gf : Nat → Int32) (m t k : Nat) : Prop := t < T ∧ k < n ∧ gf (m * 10 + t) = nI k
/-- where followers may lead -/
def wfF (n T : Nat) (gf : Nat → Int32) : Prop := ∀ m, m < n → ∀ t, t < T → gf (m * 10 + t) = -1 ∨ ∃ k, k < n ∧ gf (m * 10 + t) = nI k
def closed (n T : Nat) (gf : Nat → Int32) (w r : Nat → Nat) : Prop := ∀ m, m < n → ∀ t k, Ed n T gf m t k → r m ≤ r k + w t
def just (n T : Nat) (gf : Nat → Int32) (w b r : Nat → Nat) : Prop := ∀ m, m < n → r m = b m ∨ ∃ t k, Ed n T gf m t k ∧ r k + w t ≤ r m
/-- within a pass: markings from m + 1 on are through, and of m the transitions before t -/
def rI (n T : Nat) (gf : Nat → Int32) (w r : Nat → Nat) (m t : Nat) (rc : Nat → Nat) (b : Nat) : Prop :=
  (∀ i, rc i ≤ r i) ∧ (∀ i, n ≤ i → rc i = r i) ∧ (b = 0 ∨ b = 1) ∧
  (b = 0 → rc = r ∧ ∀ m', m' < n → ∀ t' k, (m < m' ∨ (m' = m ∧ t' < t)) → Ed n T gf m' t' k → r m' ≤ r k + w t') ∧
  just n T gf w r rc ∧
  (∀ m', m' < n → ∀ t' k, (m < m' ∨ (m' = m ∧ t' < t)) → Ed n T gf m' t' k → rc m' ≤ r k + w t') ∧
  (∀ D : Nat → Nat, (∀ i, i < n → D i ≤ r i) → closed n T gf w D → ∀ i, i < n → D i ≤ rc i)
theorem nI_inj {a b : Nat} (ha : a < 2 ^ 31) (hb : b < 2 ^ 31) (h : nI a = nI b) : a = b := (nI_eq ha hb).mp h
/-- nothing to do at this transition -/
theorem rI.keep {n T : Nat} {gf : Nat → Int32} {w r rc : Nat → Nat} {m t b : Nat} (h : rI n T gf w r m t rc b) (hg : ∀ k, Ed n T gf m t k → rc m ≤ rc k + w t) : rI n T gf w r m (t + 1) rc b := by
  obtain ⟨h1, h2, h3, h4, h5, h6, h7⟩ := h
  refine ⟨h1, h2, h3, fun hb => ⟨(h4 hb).1, fun m' hm t' k hp he => ?_⟩, h5, fun m' hm t' k hp he => ?_, h7⟩
  · by_cases z : m' = m ∧ t' = t
    · obtain ⟨rfl, rfl⟩ := z
      have := hg k he
      rwa [(h4 hb).1] at this
    · exact (h4 hb).2 m' hm t' k (by omega) he
  · by_cases z : m' = m ∧ t' = t
    · obtain ⟨rfl, rfl⟩ := z
      exact Nat.le_trans (hg k he) (Nat.add_le_add_right (h1 k) _)
    · exact h6 m' hm t' k (by omega) he
/-- a better way -/
theorem rI.put {n T : Nat} {gf : Nat → Int32} {w r rc : Nat → Nat} {m t b k : Nat} (hn : n < 2 ^ 31) (hm : m < n) (h : rI n T gf w r m t rc b) (he : Ed n T gf m t k) (hlt : rc k + w t < rc m) : rI n T gf w r m (t + 1) (va_up rc m (rc k + w t)) 1 := by
  obtain ⟨h1, h2, h3, h4, h5, h6, h7⟩ := h
  have hkm : k ≠ m := by rintro rfl; omega
  have us : va_up rc m (rc k + w t) m = rc k + w t := by simp [va_up]
  have un : ∀ i, i ≠ m → va_up rc m (rc k + w t) i = rc i := fun i hi => by simp [va_up, hi]
  have le : ∀ i, va_up rc m (rc k + w t) i ≤ rc i := fun i => by
    by_cases z : i = m
    · subst z; rw [us]; omega
    · rw [un i z]; exact Nat.le_refl _
  refine ⟨fun i => Nat.le_trans (le i) (h1 i), fun i hi => ?_, Or.inr rfl, fun hb => by cases hb, fun m' hm' => ?_, fun m' hm' t' k' hp he' => ?_, fun D hD hc i hi => ?_⟩
  · rw [un i (by omega)]
    exact h2 i hi
  · by_cases z : m' = m
    · subst z
      exact Or.inr ⟨t, k, he, by rw [us, un k hkm]; exact Nat.le_refl _⟩
    · rw [un m' z]
      rcases h5 m' hm' with q | ⟨t', k', q1, q2⟩
      · exact Or.inl q
      · exact Or.inr ⟨t', k', q1, Nat.le_trans (Nat.add_le_add_right (le k') _) q2⟩
  · by_cases z : m' = m ∧ t' = t
    · obtain ⟨rfl, rfl⟩ := z
      have e : k' = k := nI_inj (by have := he'.2.1; omega) (by have := he.2.1; omega) (he'.2.2.symm.trans he.2.2)
      subst e
      rw [us]
      exact Nat.add_le_add_right (h1 _) _
    · exact Nat.le_trans (le m') (h6 m' hm' t' k' (by omega) he')
  · by_cases z : i = m
    · subst z
      rw [us]
      have := hc i hi t k he
      have := h7 D hD hc k he.2.1
      omega
    · rw [un i z]
      exact h7 D hD hc i hi
/-- on to the marking before -/
theorem rI.down {n T : Nat} {gf : Nat → Int32} {w r rc : Nat → Nat} {m b : Nat} (h : rI n T gf w r (m + 1) T rc b) : rI n T gf w r m 0 rc b := by
  obtain ⟨h1, h2, h3, h4, h5, h6, h7⟩ := h
  refine ⟨h1, h2, h3, fun hb => ⟨(h4 hb).1, fun m' hm t' k hp he => ?_⟩, h5, fun m' hm t' k hp he => ?_, h7⟩
  · have := he.1
    exact (h4 hb).2 m' hm t' k (by omega) he
  · have := he.1
    exact h6 m' hm t' k (by omega) he
theorem rI.init (n T : Nat) (gf : Nat → Int32) (w r : Nat → Nat) : rI n T gf w r n 0 r 0 :=
  ⟨fun _ => Nat.le_refl _, fun _ _ => rfl, Or.inl rfl, fun _ => ⟨rfl, fun m' hm t' k hp => absurd hp (by omega)⟩, fun _ _ => Or.inl rfl, fun m' hm t' k hp => absurd hp (by omega), fun D hD _ => hD⟩
theorem upd_nI (f : Nat → Nat) (m v : Nat) : upd (fun i => nI (f i)) m (nI v) = fun i => nI (va_up f m v i) := by
  funext i
  by_cases z : i = m
  · subst z; simp [upd, va_up]
  · simp [upd, va_up, z]
/-- what a pass gives -/
def passOK (n T : Nat) (gf : Nat → Int32) (w r r' : Nat → Nat) (b : Nat) : Prop :=
  (∀ i, r' i ≤ r i) ∧ (∀ i, n ≤ i → r' i = r i) ∧ (b = 0 ∨ b = 1) ∧ (b = 0 → r' = r ∧ closed n T gf w r) ∧ just n T gf w r r' ∧ (∀ m, m < n → ∀ t k, Ed n T gf m t k → r' m ≤ r k + w t) ∧
  (∀ D : Nat → Nat, (∀ i, i < n → D i ≤ r i) → closed n T gf w D → ∀ i, i < n → D i ≤ r' i)
set_option maxRecDepth 100000 in
set_option maxHeartbeats 4000000 in
theorem ct_MG_relaxOnce (h : am_H) (ro n T : Nat) (ex la pc : Int32) (gf : Nat → Int32) (w r : Nat → Nat) (hro : 17 ≤ ro) (hn : n ≤ 200) (hT : T ≤ 10) (hwf : wfF n T gf) (hw : ∀ t, t < T → w t ≤ 36865) (hr : ∀ i, i < n → r i ≤ FAR) (h2 : h[2]? = some (c_NT pc (nI T))) (h9 : h[9]? = some (c_MG ex (nI n) la)) (h12 : h[12]? = some (ia 2000 gf))
    (h15 : h[15]? = some (ia 10 fun t => nI (w t))) (hR : h[ro]? = some (ia 200 fun i => nI (r i))) : am_Ct am_G0 m_MG_relaxOnce 0 0 0 [.ref 9, .ref ro, .ref 15] h (fun v h' => ∃ r' b, v = some (.int (nI b)) ∧ h' = h.set ro (ia 200 fun i => nI (r' i)) ∧ passOK n T gf w r r' b) := by
  refine am_Ct.of (E := E_MG_relaxOnce) e_MG_relaxOnce (by decide) (Nat.le_of_ble_eq_true rfl) ?_
  have G : ∀ rc : Nat → Nat, (h.set ro (ia 200 fun i => nI (rc i)))[2]? = some (c_NT pc (nI T)) ∧ (h.set ro (ia 200 fun i => nI (rc i)))[9]? = some (c_MG ex (nI n) la) ∧ (h.set ro (ia 200 fun i => nI (rc i)))[12]? = some (ia 2000 gf) ∧ (h.set ro (ia 200 fun i => nI (rc i)))[15]? = some (ia 10 fun t => nI (w t)) ∧ (h.set ro (ia 200 fun i => nI (rc i)))[ro]? = some (ia 200 fun i => nI (rc i)) :=
    fun rc => ⟨gs_n (by omega) h2, gs_n (by omega) h9, gs_n (by omega) h12, gs_n (by omega) h15, gs_s hR⟩
  have L : ∀ j rc b (l5 l6 : Option Value), j ≤ n → rI n T gf w r j 0 rc b → am_B E_MG_relaxOnce (am_rm 0 0 0) (am_ZM E_MG_relaxOnce 0 0 (fun v h' => ∃ r' b, v = some (.int (nI b)) ∧ h' = h.set ro (ia 200 fun i => nI (r' i)) ∧ passOK n T gf w r r' b)) 10 [some (.ref 9), some (.ref ro), some (.ref 15), some (.int (nI b)), some (.int (nI j - nI 1)), l5, l6] [] (h.set ro (ia 200 fun i => nI (rc i))) 0 0 := by
    intro j
    induction j with
    | zero =>
      intro rc b l5 l6 hj I
      refine am_B.run (hp := false) (sp := []) 200 rfl ?_
      refine am_B.if_lt rfl rfl (fun _ => ?_) (fun z => absurd (by decide) z)
      refine am_B.run (hp := false) (sp := []) 200 rfl ?_
      obtain ⟨i1, i2, i3, i4, i5, i6, i7⟩ := I
      refine am_B.zret rfl rfl rfl (by rcases i3 with rfl | rfl <;> rfl) ⟨rc, b, rfl, rfl, i1, i2, i3, fun hb => ⟨(i4 hb).1, fun m hm t k he => ?_⟩, i5, fun m hm t k he => ?_, i7⟩
      · sorry
      · sorry
    | succ j ih =>
      intro rc b l5 l6 hj I
      sorry
  refine am_B.run (hp := false) (sp := []) 200 rfl ?_
  refine am_B.get rfl rfl rfl (by first | assumption | exact gs_s (by first | assumption | exact gs_s (by first | assumption | exact gs_s (by assumption) | (refine gs_n (by decide) ?_; assumption)) | (refine gs_n (by decide) ?_; first | assumption | exact gs_s (by assumption) | (refine gs_n (by decide) ?_; assumption))) | (refine gs_n (by decide) ?_; first | assumption | exact gs_s (by first | assumption | exact gs_s (by assumption) | (refine gs_n (by decide) ?_; assumption)) | (refine gs_n (by decide) ?_; first | assumption | exact gs_s (by assumption) | (refine gs_n (by decide) ?_; assumption)))) rfl rfl ?_
  refine am_B.run (hp := false) (sp := [10]) 200 rfl ?_
  have e := L n r 0 none none (Nat.le_refl _) (rI.init n T gf w r)
  rw [gs_id hR] at e
  exact e
