/-! RELAXING a row of weights over the transitions -/
/-- transition t leads from m to k -/
def Ed (n T : Nat) (gf : Nat → Int32) (m t k : Nat) : Prop := t < T ∧ k < n ∧ gf (m * 10 + t) = nI k
/-- where followers may lead -/
def wfF (n T : Nat) (gf : Nat → Int32) : Prop := ∀ m, m < n → ∀ t, t < T → gf (m * 10 + t) = -1 ∨ ∃ k, k < n ∧ gf (m * 10 + t) = nI k
def closed (n T : Nat) (gf : Nat → Int32) (w r : Nat → Nat) : Prop := ∀ m, m < n → ∀ t k, Ed n T gf m t k → r m ≤ r k + w t
def just (n T : Nat) (gf : Nat → Int32) (w b r : Nat → Nat) : Prop := ∀ m, m < n → r m = b m ∨ ∃ t k, Ed n T gf m t k ∧ r k + w t ≤ r m
/-- within a pass: markings from j on are through, and of the one before it the transitions before t -/
def rI (n T : Nat) (gf : Nat → Int32) (w r : Nat → Nat) (j t : Nat) (rc : Nat → Nat) (b : Nat) : Prop :=
  (∀ i, rc i ≤ r i) ∧ (∀ i, n ≤ i → rc i = r i) ∧ (b = 0 ∨ b = 1) ∧ (b = 0 → rc = r) ∧
  (∀ m', m' < n → ∀ t' k, (j ≤ m' ∨ (m' + 1 = j ∧ t' < t)) → Ed n T gf m' t' k → rc m' ≤ r k + w t') ∧
  (∀ D : Nat → Nat, (∀ i, i < n → D i ≤ r i) → closed n T gf w D → ∀ i, i < n → D i ≤ rc i)
theorem nI_inj {a b : Nat} (ha : a < 2 ^ 31) (hb : b < 2 ^ 31) (h : nI a = nI b) : a = b := (nI_eq ha hb).mp h
/-- nothing to do at this transition -/
theorem rI.keep {n T : Nat} {gf : Nat → Int32} {w r rc : Nat → Nat} {m t b : Nat} (h : rI n T gf w r (m + 1) t rc b) (hg : ∀ k, Ed n T gf m t k → rc m ≤ rc k + w t) : rI n T gf w r (m + 1) (t + 1) rc b := by
  obtain ⟨h1, h2, h3, h4, h6, h7⟩ := h
  refine ⟨h1, h2, h3, h4, fun m' hm t' k hp he => ?_, h7⟩
  by_cases z : m' = m ∧ t' = t
  · obtain ⟨rfl, rfl⟩ := z
    exact Nat.le_trans (hg k he) (Nat.add_le_add_right (h1 k) _)
  · exact h6 m' hm t' k (by omega) he
/-- a better way -/
theorem rI.put {n T : Nat} {gf : Nat → Int32} {w r rc : Nat → Nat} {m t b k : Nat} (hn : n < 2 ^ 31) (hm : m < n) (h : rI n T gf w r (m + 1) t rc b) (he : Ed n T gf m t k) (hlt : rc k + w t < rc m) : rI n T gf w r (m + 1) (t + 1) (va_up rc m (rc k + w t)) 1 := by
  obtain ⟨h1, h2, h3, h4, h6, h7⟩ := h
  have hkm : k ≠ m := by rintro rfl; omega
  have us : va_up rc m (rc k + w t) m = rc k + w t := by simp [va_up]
  have un : ∀ i, i ≠ m → va_up rc m (rc k + w t) i = rc i := fun i hi => by simp [va_up, hi]
  have le : ∀ i, va_up rc m (rc k + w t) i ≤ rc i := fun i => by
    by_cases z : i = m
    · subst z; rw [us]; omega
    · rw [un i z]; exact Nat.le_refl _
  refine ⟨fun i => Nat.le_trans (le i) (h1 i), fun i hi => ?_, Or.inr rfl, fun hb => absurd hb (by decide), fun m' hm' t' k' hp he' => ?_, fun D hD hc i hi => ?_⟩
  · rw [un i (by omega)]
    exact h2 i hi
  · by_cases z : m' = m ∧ t' = t
    · obtain ⟨rfl, rfl⟩ := z
      have e : k' = k := nI_inj (by have := he'.2.1; omega) (by have := he.2.1; omega) (he'.2.2.symm.trans he.2.2)
      subst e
      rw [us]
      exact Nat.add_le_add_right (h1 _) _
    · exact Nat.le_trans (le m') (h6 m' hm' t' k' (by omega) he')
  · by_cases z : i = m
    · subst z
      rw [us]
      have := hc i hi t k he
      have := h7 D hD hc k he.2.1
      omega
    · rw [un i z]
      exact h7 D hD hc i hi
/-- on to the marking before -/
theorem rI.down {n T : Nat} {gf : Nat → Int32} {w r rc : Nat → Nat} {j b : Nat} (h : rI n T gf w r (j + 1) T rc b) : rI n T gf w r j 0 rc b := by
  obtain ⟨h1, h2, h3, h4, h6, h7⟩ := h
  refine ⟨h1, h2, h3, h4, fun m' hm t' k hp he => ?_, h7⟩
  have := he.1
  exact h6 m' hm t' k (by omega) he
theorem rI.init (n T : Nat) (gf : Nat → Int32) (w r : Nat → Nat) : rI n T gf w r n 0 r 0 :=
  ⟨fun _ => Nat.le_refl _, fun _ _ => rfl, Or.inl rfl, fun _ => rfl, fun m' hm t' k hp => absurd hp (by omega), fun D hD _ => hD⟩
theorem upd_nI (f : Nat → Nat) (m v : Nat) : upd (fun i => nI (f i)) m (nI v) = fun i => nI (va_up f m v i) := by
  funext i
  by_cases z : i = m
  · subst z; simp [upd, va_up]
  · simp [upd, va_up, z]
theorem nI_prd (j : Nat) : nI (j + 1) - nI 1 = nI j := nI_pred j
theorem nI_dec (j : Nat) : nI j - nI 1 = nI j + -1 := Int32.sub_eq_add_neg _ _
/-- what a pass gives -/
def passOK (n T : Nat) (gf : Nat → Int32) (w r r' : Nat → Nat) (b : Nat) : Prop :=
  (∀ i, r' i ≤ r i) ∧ (∀ i, n ≤ i → r' i = r i) ∧ (b = 0 ∨ b = 1) ∧ (b = 0 → r' = r) ∧ (∀ m, m < n → ∀ t k, Ed n T gf m t k → r' m ≤ r k + w t) ∧
  (∀ D : Nat → Nat, (∀ i, i < n → D i ≤ r i) → closed n T gf w D → ∀ i, i < n → D i ≤ r' i)
set_option maxRecDepth 100000 in
set_option maxHeartbeats 4000000 in
theorem ct_MG_relaxOnce (h : am_H) (ro n T : Nat) (ex la pc : Int32) (wa : Nat) (gf : Nat → Int32) (w r : Nat → Nat) (hro : 13 ≤ ro) (hwa : 13 ≤ wa) (hrw : ro ≠ wa) (hn : n ≤ 200) (hT : T ≤ 10) (hwf : wfF n T gf) (hw : ∀ t, t < T → w t ≤ 36865) (hr : ∀ i, i < n → r i ≤ 1073741824) (h2 : h[2]? = some (c_NT pc (nI T))) (h9 : h[9]? = some (c_MG ex (nI n) la)) (h12 : h[12]? = some (ia 2000 gf))
    (h15 : h[wa]? = some (ia 10 fun t => nI (w t))) (hR : h[ro]? = some (ia 200 fun i => nI (r i))) : am_Ct am_G0 m_MG_relaxOnce 0 0 0 [.ref 9, .ref ro, .ref wa] h (fun v h' => ∃ r' b, v = some (.int (nI b)) ∧ h' = h.set ro (ia 200 fun i => nI (r' i)) ∧ passOK n T gf w r r' b) := by
  refine am_Ct.of (E := E_MG_relaxOnce) e_MG_relaxOnce (by decide) (Nat.le_of_ble_eq_true rfl) ?_
  have G : ∀ rc : Nat → Nat, (h.set ro (ia 200 fun i => nI (rc i)))[2]? = some (c_NT pc (nI T)) ∧ (h.set ro (ia 200 fun i => nI (rc i)))[9]? = some (c_MG ex (nI n) la) ∧ (h.set ro (ia 200 fun i => nI (rc i)))[12]? = some (ia 2000 gf) ∧ (h.set ro (ia 200 fun i => nI (rc i)))[wa]? = some (ia 10 fun t => nI (w t)) ∧ (h.set ro (ia 200 fun i => nI (rc i)))[ro]? = some (ia 200 fun i => nI (rc i)) :=
    fun rc => ⟨gs_n (by omega) h2, gs_n (by omega) h9, gs_n (by omega) h12, gs_n hrw h15, gs_s hR⟩
  have L : ∀ j rc b (l5 l6 : Option Value), j ≤ n → rI n T gf w r j 0 rc b → am_B E_MG_relaxOnce (am_rm 0 0 0) (am_ZM E_MG_relaxOnce 0 0 (fun v h' => ∃ r' b, v = some (.int (nI b)) ∧ h' = h.set ro (ia 200 fun i => nI (r' i)) ∧ passOK n T gf w r r' b)) 10 [some (.ref 9), some (.ref ro), some (.ref wa), some (.int (nI b)), some (.int (nI j - nI 1)), l5, l6] [] (h.set ro (ia 200 fun i => nI (rc i))) 0 0 := by
    intro j
    induction j with
    | zero =>
      intro rc b l5 l6 hj I
      refine am_B.run (hp := false) (sp := []) 200 rfl ?_
      refine am_B.if_lt rfl rfl (fun _ => ?_) (fun z => absurd (by decide) z)
      refine am_B.run (hp := false) (sp := []) 200 rfl ?_
      obtain ⟨i1, i2, i3, i4, i6, i7⟩ := I
      exact am_B.zret rfl rfl rfl (by rcases i3 with rfl | rfl <;> rfl) ⟨rc, b, rfl, rfl, i1, i2, i3, i4, fun m hm t k he => i6 m hm t k (Or.inl (Nat.zero_le _)) he, i7⟩
    | succ j ih =>
      intro rc b l5 l6 hj I
      have hj2 : j < 200 := by omega
      have M : ∀ d t rc b (l6 : Option Value), t + d = T → rI n T gf w r (j + 1) t rc b → am_B E_MG_relaxOnce (am_rm 0 0 0) (am_ZM E_MG_relaxOnce 0 0 (fun v h' => ∃ r' b, v = some (.int (nI b)) ∧ h' = h.set ro (ia 200 fun i => nI (r' i)) ∧ passOK n T gf w r r' b)) 18 [some (.ref 9), some (.ref ro), some (.ref wa), some (.int (nI b)), some (.int (nI j)), some (.int (nI t)), l6] [] (h.set ro (ia 200 fun i => nI (rc i))) 0 0 := by
        intro d
        induction d with
        | zero =>
          intro t rc b l6 ht I
          obtain rfl : t = T := by omega
          obtain ⟨g2, g9, g12, g15, gR⟩ := G rc
          refine am_B.run (hp := false) (sp := []) 200 rfl ?_
          refine am_B.get rfl rfl rfl (by first | assumption | exact gs_s (by first | assumption | exact gs_s (by first | assumption | exact gs_s (by assumption) | (refine gs_n (by decide) ?_; assumption)) | (refine gs_n (by decide) ?_; first | assumption | exact gs_s (by assumption) | (refine gs_n (by decide) ?_; assumption))) | (refine gs_n (by decide) ?_; first | assumption | exact gs_s (by first | assumption | exact gs_s (by assumption) | (refine gs_n (by decide) ?_; assumption)) | (refine gs_n (by decide) ?_; first | assumption | exact gs_s (by assumption) | (refine gs_n (by decide) ?_; assumption)))) rfl rfl ?_
          refine am_B.run (hp := false) (sp := []) 200 rfl ?_
          refine am_B.get rfl rfl rfl (by first | assumption | exact gs_s (by first | assumption | exact gs_s (by first | assumption | exact gs_s (by assumption) | (refine gs_n (by decide) ?_; assumption)) | (refine gs_n (by decide) ?_; first | assumption | exact gs_s (by assumption) | (refine gs_n (by decide) ?_; assumption))) | (refine gs_n (by decide) ?_; first | assumption | exact gs_s (by first | assumption | exact gs_s (by assumption) | (refine gs_n (by decide) ?_; assumption)) | (refine gs_n (by decide) ?_; first | assumption | exact gs_s (by assumption) | (refine gs_n (by decide) ?_; assumption)))) rfl rfl ?_
          refine am_B.run (hp := false) (sp := []) 200 rfl ?_
          refine am_B.icmp_ge rfl rfl (fun _ => ?_) (fun z => absurd (nI_le (by omega) (by omega)) z)
          refine am_B.run (hp := false) (sp := [10]) 200 rfl ?_
          have e := ih rc b (some (.int (nI t))) l6 (by omega) I.down
          rw [nI_dec j] at e
          exact e
        | succ d id =>
          intro t rc b l6 ht I
          have htT : t < 10 := by omega
          have J82 : ∀ rc b (l6 : Option Value), rI n T gf w r (j + 1) (t + 1) rc b → am_B E_MG_relaxOnce (am_rm 0 0 0) (am_ZM E_MG_relaxOnce 0 0 (fun v h' => ∃ r' b, v = some (.int (nI b)) ∧ h' = h.set ro (ia 200 fun i => nI (r' i)) ∧ passOK n T gf w r r' b)) 82 [some (.ref 9), some (.ref ro), some (.ref wa), some (.int (nI b)), some (.int (nI j)), some (.int (nI t)), l6] [] (h.set ro (ia 200 fun i => nI (rc i))) 0 0 := by
            intro rc b l6 I
            refine am_B.run (hp := false) (sp := [18]) 200 rfl ?_
            rw [nI_add]
            exact id (t + 1) rc b l6 (by omega) I
          obtain ⟨g2, g9, g12, g15, gR⟩ := G rc
          refine am_B.run (hp := false) (sp := []) 200 rfl ?_
          refine am_B.get rfl rfl rfl (by first | assumption | exact gs_s (by first | assumption | exact gs_s (by first | assumption | exact gs_s (by assumption) | (refine gs_n (by decide) ?_; assumption)) | (refine gs_n (by decide) ?_; first | assumption | exact gs_s (by assumption) | (refine gs_n (by decide) ?_; assumption))) | (refine gs_n (by decide) ?_; first | assumption | exact gs_s (by first | assumption | exact gs_s (by assumption) | (refine gs_n (by decide) ?_; assumption)) | (refine gs_n (by decide) ?_; first | assumption | exact gs_s (by assumption) | (refine gs_n (by decide) ?_; assumption)))) rfl rfl ?_
          refine am_B.run (hp := false) (sp := []) 200 rfl ?_
          refine am_B.get rfl rfl rfl (by first | assumption | exact gs_s (by first | assumption | exact gs_s (by first | assumption | exact gs_s (by assumption) | (refine gs_n (by decide) ?_; assumption)) | (refine gs_n (by decide) ?_; first | assumption | exact gs_s (by assumption) | (refine gs_n (by decide) ?_; assumption))) | (refine gs_n (by decide) ?_; first | assumption | exact gs_s (by first | assumption | exact gs_s (by assumption) | (refine gs_n (by decide) ?_; assumption)) | (refine gs_n (by decide) ?_; first | assumption | exact gs_s (by assumption) | (refine gs_n (by decide) ?_; assumption)))) rfl rfl ?_
          refine am_B.run (hp := false) (sp := []) 200 rfl ?_
          refine am_B.icmp_ge rfl rfl (fun z => absurd z (nI_ge (by omega) (by omega))) (fun _ => ?_)
          refine am_B.run (hp := false) (sp := []) 200 rfl ?_
          refine am_B.get rfl rfl rfl (by first | assumption | exact gs_s (by first | assumption | exact gs_s (by first | assumption | exact gs_s (by assumption) | (refine gs_n (by decide) ?_; assumption)) | (refine gs_n (by decide) ?_; first | assumption | exact gs_s (by assumption) | (refine gs_n (by decide) ?_; assumption))) | (refine gs_n (by decide) ?_; first | assumption | exact gs_s (by first | assumption | exact gs_s (by assumption) | (refine gs_n (by decide) ?_; assumption)) | (refine gs_n (by decide) ?_; first | assumption | exact gs_s (by assumption) | (refine gs_n (by decide) ?_; assumption)))) rfl rfl ?_
          refine am_B.run (hp := false) (sp := []) 200 rfl ?_
          rw [pk_mul, nI_add]
          refine am_B.ald rfl g12 (vp_n (show j * 10 + t < 2000 by omega) rfl) rfl ?_
          rw [nI_clamp (show j * 10 + t < 2 ^ 31 by omega)]
          rcases hwf j (by omega) t (by omega) with hm1 | ⟨k, hk, hgk⟩
          · rw [hm1]
            refine am_B.run (hp := false) (sp := []) 200 rfl ?_
            refine am_B.icmp_eq rfl rfl (fun _ => ?_) (fun z => absurd rfl z)
            refine J82 rc b _ (I.keep fun k he => ?_)
            have := he.2.2.symm.trans hm1
            exact absurd this (nI_neg1 (by have := he.2.1; omega))
          · rw [hgk]
            have he : Ed n T gf j t k := ⟨by omega, hk, hgk⟩
            have hk2 : k < 200 := by omega
            have b1 := Nat.le_trans (I.1 k) (hr k hk)
            have b2 := Nat.le_trans (I.1 j) (hr j (by omega))
            have b3 := hw t (by omega)
            refine am_B.run (hp := false) (sp := []) 200 rfl ?_
            refine am_B.icmp_eq rfl rfl (fun z => absurd z (nI_neg1 (by omega))) (fun _ => ?_)
            refine am_B.run (hp := false) (sp := []) 200 rfl ?_
            refine am_B.ald rfl gR (vp_n hk2 rfl) rfl ?_
            rw [nI_clamp (show k < 2 ^ 31 by omega)]
            refine am_B.run (hp := false) (sp := []) 200 rfl ?_
            refine am_B.ald rfl g15 (vp_n htT rfl) rfl ?_
            rw [nI_clamp (show t < 2 ^ 31 by omega)]
            refine am_B.run (hp := false) (sp := []) 200 rfl ?_
            refine am_B.ald rfl gR (vp_n hj2 rfl) rfl ?_
            rw [nI_clamp (show j < 2 ^ 31 by omega), nI_add]
            refine am_B.icmp_ge rfl rfl (fun z => ?_) (fun z => ?_)
            · refine J82 rc b _ (I.keep fun k' he' => ?_)
              have e : k' = k := nI_inj (by have := he'.2.1; omega) (by omega) (he'.2.2.symm.trans hgk)
              subst e
              exact (nI_leI (a := rc j) (b := rc k' + w t) (by omega) (by omega)).mp z
            · have hlt : rc k + w t < rc j := by
                rcases Nat.lt_or_ge (rc k + w t) (rc j) with q | q
                · exact q
                · exact absurd ((nI_leI (a := rc j) (b := rc k + w t) (by omega) (by omega)).mpr q) z
              refine am_B.run (hp := false) (sp := []) 200 rfl ?_
              refine am_B.ald rfl gR (vp_n hk2 rfl) rfl ?_
              rw [nI_clamp (show k < 2 ^ 31 by omega)]
              refine am_B.run (hp := false) (sp := []) 200 rfl ?_
              refine am_B.ald rfl g15 (vp_n htT rfl) rfl ?_
              rw [nI_clamp (show t < 2 ^ 31 by omega)]
              refine am_B.run (hp := false) (sp := []) 200 rfl ?_
              rw [nI_add]
              refine am_B.ast rfl gR (vp_n hj2 rfl) rfl ?_
              rw [nI_clamp (show j < 2 ^ 31 by omega), List.set_set]
              refine am_B.run (hp := false) (sp := [82]) 200 rfl ?_
              have e := J82 _ 1 (some (.int (nI k))) (I.put (by omega) (by omega) he hlt)
              rw [← upd_nI] at e
              exact e
      refine am_B.run (hp := false) (sp := []) 200 rfl ?_
      refine am_B.if_lt rfl rfl (fun z => ?_) (fun _ => ?_)
      · rw [nI_prd] at z
        exact absurd z (nI_nlt (Nat.zero_le j) (by omega))
      · rw [nI_prd]
        refine am_B.run (hp := false) (sp := [18]) 200 rfl ?_
        exact M T 0 rc b l6 (by omega) I
  refine am_B.run (hp := false) (sp := []) 200 rfl ?_
  refine am_B.get rfl rfl rfl (by first | assumption | exact gs_s (by first | assumption | exact gs_s (by first | assumption | exact gs_s (by assumption) | (refine gs_n (by decide) ?_; assumption)) | (refine gs_n (by decide) ?_; first | assumption | exact gs_s (by assumption) | (refine gs_n (by decide) ?_; assumption))) | (refine gs_n (by decide) ?_; first | assumption | exact gs_s (by first | assumption | exact gs_s (by assumption) | (refine gs_n (by decide) ?_; assumption)) | (refine gs_n (by decide) ?_; first | assumption | exact gs_s (by assumption) | (refine gs_n (by decide) ?_; assumption)))) rfl rfl ?_
  refine am_B.run (hp := false) (sp := [10]) 200 rfl ?_
  have e := L n r 0 none none (Nat.le_refl _) (rI.init n T gf w r)
  rw [gs_id hR] at e
  exact e
