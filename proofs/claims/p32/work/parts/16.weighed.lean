/-! WEIGHING an event, and all -/
/-- the least over what passes a label, with transitions before t looked at -/
def rowB (n T : Nat) (gl gf : Nat → Int32) (l tw : Nat) (p : Nat → Nat) (m t L : Nat) : Prop :=
  L ≤ 1073741824 ∧ L ≤ p m + tw ∧ (∀ t' k, t' < t → Ed n T gf m t' k → gl t' = nI l → L ≤ p k + 1) ∧ (L = 1073741824 ∨ L = p m + tw ∨ ∃ t' k, Ed n T gf m t' k ∧ gl t' = nI l ∧ L = p k + 1)
theorem rowB.keep {n T : Nat} {gl gf : Nat → Int32} {l tw : Nat} {p : Nat → Nat} {m t L : Nat} (h : rowB n T gl gf l tw p m t L) (hg : ∀ k, Ed n T gf m t k → gl t = nI l → L ≤ p k + 1) : rowB n T gl gf l tw p m (t + 1) L := by
  refine ⟨h.1, h.2.1, fun t' k ht he hl => ?_, h.2.2.2⟩
  by_cases z : t' = t
  · subst z
    exact hg k he hl
  · exact h.2.2.1 t' k (by omega) he hl
theorem rowB.put {n T : Nat} {gl gf : Nat → Int32} {l tw : Nat} {p : Nat → Nat} {m t L k : Nat} (hn : n ≤ 200) (h : rowB n T gl gf l tw p m t L) (he : Ed n T gf m t k) (hl : gl t = nI l) : rowB n T gl gf l tw p m (t + 1) (min L (p k + 1)) := by
  have h1 : min L (p k + 1) ≤ L := Nat.min_le_left _ _
  refine ⟨Nat.le_trans h1 h.1, Nat.le_trans h1 h.2.1, fun t' k' ht he' hl' => ?_, ?_⟩
  · by_cases z : t' = t
    · subst z
      have e : k' = k := nI_inj (by have := he'.2.1; omega) (by have := he.2.1; omega) (he'.2.2.symm.trans he.2.2)
      subst e
      exact Nat.min_le_right _ _
    · exact Nat.le_trans h1 (h.2.2.1 t' k' (by omega) he' hl')
  · rcases Nat.le_total L (p k + 1) with z | z
    · rw [Nat.min_eq_left z]
      exact h.2.2.2
    · rw [Nat.min_eq_right z]
      exact Or.inr (Or.inr ⟨t, k, he, hl, rfl⟩)
/-- a row before an event out of the row behind it -/
def rowE (n T : Nat) (gl gf : Nat → Int32) (w : Nat → Nat) (l tw : Nat) (p r : Nat → Nat) : Prop := ∃ b, (∀ m, m < n → rowB n T gl gf l tw p m T (b m)) ∧ fixOK n T gf w b r
theorem rowE.far {n T : Nat} {gl gf : Nat → Int32} {w : Nat → Nat} {l tw : Nat} {p r : Nat → Nat} (h : rowE n T gl gf w l tw p r) : ∀ m, m < n → r m ≤ 1073741824 := by
  obtain ⟨b, h1, h2⟩ := h
  exact fun m hm => Nat.le_trans (h2.2.1 m hm) (h1 m hm).1
set_option maxRecDepth 100000 in
set_option maxHeartbeats 4000000 in
theorem ct_PF_weighEvent (h : am_H) (ro rp n T l : Nat) (pc ex la : Int32) (gl gf g : Nat → Int32) (lc w p : Nat → Nat) (hro : 17 ≤ ro) (hrp : 17 ≤ rp) (hne : ro ≠ rp) (hn : n ≤ 200) (hT : T ≤ 10) (hl : l < 6) (hlc : lc l ≤ 9) (hwf : wfF n T gf) (hw : ∀ t, t < T → w t ≤ 36865) (hw1 : ∀ t, t < T → 1 ≤ w t)
    (hp : ∀ m, m < n → p m ≤ 1073741824) (W : pfW h n T pc ex la gl gf lc) (h15 : h[15]? = some (ia 10 fun t => nI (w t))) (hR : h[ro]? = some (ia 200 g)) (hP : h[rp]? = some (ia 200 fun i => nI (p i))) :
    am_Ct am_G0 m_PF_weighEvent 2 0 0 [.ref 14, .ref ro, .ref rp, .int (nI l)] h (fun v h' => v = none ∧ ∃ r, h' = h.set ro (ia 200 fun i => nI (r i)) ∧ rowE n T gl gf w l (lc l * 4096 + 1) p r) := by
  obtain ⟨g', rfl⟩ := ex_nI g
  refine am_Ct.of (E := E_PF_weighEvent) e_PF_weighEvent (by decide) (Nat.le_of_ble_eq_true rfl) ?_
  have G : ∀ rc : Nat → Nat, pfW (h.set ro (ia 200 fun i => nI (rc i))) n T pc ex la gl gf lc ∧ (h.set ro (ia 200 fun i => nI (rc i)))[15]? = some (ia 10 fun t => nI (w t)) ∧ (h.set ro (ia 200 fun i => nI (rc i)))[ro]? = some (ia 200 fun i => nI (rc i)) ∧ (h.set ro (ia 200 fun i => nI (rc i)))[rp]? = some (ia 200 fun i => nI (p i)) :=
    fun rc => ⟨W.set (Or.inl hro) _, gs_n (by omega) h15, gs_s hR, gs_n hne hP⟩
  have L : ∀ (d m : Nat) (b : Nat → Nat) (l5 l6 l7 : Option Value), m + d = n → (∀ i, i < m → rowB n T gl gf l (lc l * 4096 + 1) p i T (b i)) → am_B E_PF_weighEvent (am_rm 2 0 0) (am_ZM E_PF_weighEvent 0 0 (fun v h' => v = none ∧ ∃ r, h' = h.set ro (ia 200 fun i => nI (r i)) ∧ rowE n T gl gf w l (lc l * 4096 + 1) p r)) 3 [some (.ref 14), some (.ref ro), some (.ref rp), some (.int (nI l)), some (.int (nI m)), l5, l6, l7] [] (h.set ro (ia 200 fun i => nI (b i))) 0 0 := by
    intro d
    induction d with
    | zero =>
      intro m b l5 l6 l7 hm I
      obtain rfl : m = n := by omega
      obtain ⟨W', h15', hR', hP'⟩ := G b
      obtain ⟨h2, h3, h9, h12, h13, h14, h16⟩ := W'
      refine am_B.run (hp := false) (sp := []) 200 rfl ?_
      refine am_B.get rfl rfl rfl (by first | assumption | exact gs_s (by first | assumption | exact gs_s (by first | assumption | exact gs_s (by assumption) | (refine gs_n (by decide) ?_; assumption)) | (refine gs_n (by decide) ?_; first | assumption | exact gs_s (by assumption) | (refine gs_n (by decide) ?_; assumption))) | (refine gs_n (by decide) ?_; first | assumption | exact gs_s (by first | assumption | exact gs_s (by assumption) | (refine gs_n (by decide) ?_; assumption)) | (refine gs_n (by decide) ?_; first | assumption | exact gs_s (by assumption) | (refine gs_n (by decide) ?_; assumption)))) rfl rfl ?_
      refine am_B.run (hp := false) (sp := []) 200 rfl ?_
      refine am_B.get rfl rfl rfl (by first | assumption | exact gs_s (by first | assumption | exact gs_s (by first | assumption | exact gs_s (by assumption) | (refine gs_n (by decide) ?_; assumption)) | (refine gs_n (by decide) ?_; first | assumption | exact gs_s (by assumption) | (refine gs_n (by decide) ?_; assumption))) | (refine gs_n (by decide) ?_; first | assumption | exact gs_s (by first | assumption | exact gs_s (by assumption) | (refine gs_n (by decide) ?_; assumption)) | (refine gs_n (by decide) ?_; first | assumption | exact gs_s (by assumption) | (refine gs_n (by decide) ?_; assumption)))) rfl rfl ?_
      refine am_B.run (hp := false) (sp := []) 200 rfl ?_
      refine am_B.icmp_ge rfl rfl (fun _ => ?_) (fun z => absurd (nI_le (by omega) (by omega)) z)
      refine am_B.run (hp := false) (sp := []) 200 rfl ?_
      refine am_B.get rfl rfl rfl (by first | assumption | exact gs_s (by first | assumption | exact gs_s (by first | assumption | exact gs_s (by assumption) | (refine gs_n (by decide) ?_; assumption)) | (refine gs_n (by decide) ?_; first | assumption | exact gs_s (by assumption) | (refine gs_n (by decide) ?_; assumption))) | (refine gs_n (by decide) ?_; first | assumption | exact gs_s (by first | assumption | exact gs_s (by assumption) | (refine gs_n (by decide) ?_; assumption)) | (refine gs_n (by decide) ?_; first | assumption | exact gs_s (by assumption) | (refine gs_n (by decide) ?_; assumption)))) rfl rfl ?_
      refine am_B.run (hp := false) (sp := []) 200 rfl ?_
      refine am_B.get rfl rfl rfl (by first | assumption | exact gs_s (by first | assumption | exact gs_s (by first | assumption | exact gs_s (by assumption) | (refine gs_n (by decide) ?_; assumption)) | (refine gs_n (by decide) ?_; first | assumption | exact gs_s (by assumption) | (refine gs_n (by decide) ?_; assumption))) | (refine gs_n (by decide) ?_; first | assumption | exact gs_s (by first | assumption | exact gs_s (by assumption) | (refine gs_n (by decide) ?_; assumption)) | (refine gs_n (by decide) ?_; first | assumption | exact gs_s (by assumption) | (refine gs_n (by decide) ?_; assumption)))) rfl rfl ?_
      refine am_B.run (hp := false) (sp := []) 200 rfl ?_
      refine am_B.callV (ci := 2) (n := 2) (as := [.ref ro, .ref 15]) rfl rfl rfl (ct_MG_relax _ ro m T ex la pc 15 gf w b (by omega) (by omega) (by omega) hn hT hwf hw hw1 (fun i hi => (I i hi).1) h2 h9 h12 h15' hR') rfl rfl (by exact Nat.le_of_ble_eq_true rfl) rfl h9 rfl rfl (fun v h' q => ?_)
      obtain ⟨r, rfl, rfl, q1, q2⟩ := q
      rw [gs_ss]
      refine am_B.run (hp := false) (sp := []) 200 rfl ?_
      exact am_B.vret rfl rfl rfl ⟨rfl, r, rfl, b, I, q1⟩
    | succ d ih =>
      intro m b l5 l6 l7 hm I
      have hm2 : m < 200 := by omega
      have M : ∀ e t L (l7 : Option Value), t + e = T → rowB n T gl gf l (lc l * 4096 + 1) p m t L → am_B E_PF_weighEvent (am_rm 2 0 0) (am_ZM E_PF_weighEvent 0 0 (fun v h' => v = none ∧ ∃ r, h' = h.set ro (ia 200 fun i => nI (r i)) ∧ rowE n T gl gf w l (lc l * 4096 + 1) p r)) 35 [some (.ref 14), some (.ref ro), some (.ref rp), some (.int (nI l)), some (.int (nI m)), some (.int (nI L)), some (.int (nI t)), l7] [] (h.set ro (ia 200 fun i => nI (b i))) 0 0 := by
        intro e
        induction e with
        | zero =>
          intro t L l7 ht J
          obtain rfl : t = T := by omega
          obtain ⟨W', h15', hR', hP'⟩ := G b
          obtain ⟨h2, h3, h9, h12, h13, h14, h16⟩ := W'
          refine am_B.run (hp := false) (sp := []) 200 rfl ?_
          refine am_B.get rfl rfl rfl (by first | assumption | exact gs_s (by first | assumption | exact gs_s (by first | assumption | exact gs_s (by assumption) | (refine gs_n (by decide) ?_; assumption)) | (refine gs_n (by decide) ?_; first | assumption | exact gs_s (by assumption) | (refine gs_n (by decide) ?_; assumption))) | (refine gs_n (by decide) ?_; first | assumption | exact gs_s (by first | assumption | exact gs_s (by assumption) | (refine gs_n (by decide) ?_; assumption)) | (refine gs_n (by decide) ?_; first | assumption | exact gs_s (by assumption) | (refine gs_n (by decide) ?_; assumption)))) rfl rfl ?_
          refine am_B.run (hp := false) (sp := []) 200 rfl ?_
          refine am_B.get rfl rfl rfl (by first | assumption | exact gs_s (by first | assumption | exact gs_s (by first | assumption | exact gs_s (by assumption) | (refine gs_n (by decide) ?_; assumption)) | (refine gs_n (by decide) ?_; first | assumption | exact gs_s (by assumption) | (refine gs_n (by decide) ?_; assumption))) | (refine gs_n (by decide) ?_; first | assumption | exact gs_s (by first | assumption | exact gs_s (by assumption) | (refine gs_n (by decide) ?_; assumption)) | (refine gs_n (by decide) ?_; first | assumption | exact gs_s (by assumption) | (refine gs_n (by decide) ?_; assumption)))) rfl rfl ?_
          refine am_B.run (hp := false) (sp := []) 200 rfl ?_
          refine am_B.icmp_ge rfl rfl (fun _ => ?_) (fun z => absurd (nI_le (by omega) (by omega)) z)
          refine am_B.run (hp := false) (sp := []) 200 rfl ?_
          refine am_B.ast rfl hR' (vp_n hm2 rfl) rfl ?_
          rw [nI_clamp (show m < 2 ^ 31 by omega), gs_ss, upd_nI]
          refine am_B.run (hp := false) (sp := [3]) 200 rfl ?_
          rw [nI_add]
          refine ih (m + 1) _ _ _ _ (by omega) (fun i hi => ?_)
          by_cases z : i = m
          · subst z
            rw [show va_up b i L i = L by simp [va_up]]
            exact J
          · rw [show va_up b m L i = b i by simp [va_up, z]]
            exact I i (by omega)
        | succ e ie =>
          intro t L l7 ht J
          have htT : t < 10 := by omega
          obtain ⟨W', h15', hR', hP'⟩ := G b
          obtain ⟨h2, h3, h9, h12, h13, h14, h16⟩ := W'
          have J93 : ∀ L (x : Int32), rowB n T gl gf l (lc l * 4096 + 1) p m (t + 1) L → am_B E_PF_weighEvent (am_rm 2 0 0) (am_ZM E_PF_weighEvent 0 0 (fun v h' => v = none ∧ ∃ r, h' = h.set ro (ia 200 fun i => nI (r i)) ∧ rowE n T gl gf w l (lc l * 4096 + 1) p r)) 93 [some (.ref 14), some (.ref ro), some (.ref rp), some (.int (nI l)), some (.int (nI m)), some (.int (nI L)), some (.int (nI t)), some (.int x)] [] (h.set ro (ia 200 fun i => nI (b i))) 0 0 := by
            intro L x J
            refine am_B.run (hp := false) (sp := [35]) 200 rfl ?_
            rw [nI_add]
            exact ie (t + 1) L _ (by omega) J
          refine am_B.run (hp := false) (sp := []) 200 rfl ?_
          refine am_B.get rfl rfl rfl (by first | assumption | exact gs_s (by first | assumption | exact gs_s (by first | assumption | exact gs_s (by assumption) | (refine gs_n (by decide) ?_; assumption)) | (refine gs_n (by decide) ?_; first | assumption | exact gs_s (by assumption) | (refine gs_n (by decide) ?_; assumption))) | (refine gs_n (by decide) ?_; first | assumption | exact gs_s (by first | assumption | exact gs_s (by assumption) | (refine gs_n (by decide) ?_; assumption)) | (refine gs_n (by decide) ?_; first | assumption | exact gs_s (by assumption) | (refine gs_n (by decide) ?_; assumption)))) rfl rfl ?_
          refine am_B.run (hp := false) (sp := []) 200 rfl ?_
          refine am_B.get rfl rfl rfl (by first | assumption | exact gs_s (by first | assumption | exact gs_s (by first | assumption | exact gs_s (by assumption) | (refine gs_n (by decide) ?_; assumption)) | (refine gs_n (by decide) ?_; first | assumption | exact gs_s (by assumption) | (refine gs_n (by decide) ?_; assumption))) | (refine gs_n (by decide) ?_; first | assumption | exact gs_s (by first | assumption | exact gs_s (by assumption) | (refine gs_n (by decide) ?_; assumption)) | (refine gs_n (by decide) ?_; first | assumption | exact gs_s (by assumption) | (refine gs_n (by decide) ?_; assumption)))) rfl rfl ?_
          refine am_B.run (hp := false) (sp := []) 200 rfl ?_
          refine am_B.icmp_ge rfl rfl (fun z => absurd z (nI_ge (by omega) (by omega))) (fun _ => ?_)
          refine am_B.run (hp := false) (sp := []) 200 rfl ?_
          refine am_B.get rfl rfl rfl (by first | assumption | exact gs_s (by first | assumption | exact gs_s (by first | assumption | exact gs_s (by assumption) | (refine gs_n (by decide) ?_; assumption)) | (refine gs_n (by decide) ?_; first | assumption | exact gs_s (by assumption) | (refine gs_n (by decide) ?_; assumption))) | (refine gs_n (by decide) ?_; first | assumption | exact gs_s (by first | assumption | exact gs_s (by assumption) | (refine gs_n (by decide) ?_; assumption)) | (refine gs_n (by decide) ?_; first | assumption | exact gs_s (by assumption) | (refine gs_n (by decide) ?_; assumption)))) rfl rfl ?_
          refine am_B.run (hp := false) (sp := []) 200 rfl ?_
          refine am_B.callV (ci := 2) (n := 2) (as := [.int (nI m), .int (nI t)]) rfl rfl rfl (ct_MG_follower 0 _ m t ex (nI n) la gf hm2 htT h9 h12) rfl rfl (by exact Nat.le_of_ble_eq_true rfl) rfl h9 rfl rfl (fun v h' q => ?_)
          obtain ⟨rfl, rfl⟩ := q
          refine am_B.run (hp := false) (sp := []) 200 rfl ?_
          refine am_B.get rfl rfl rfl (by first | assumption | exact gs_s (by first | assumption | exact gs_s (by first | assumption | exact gs_s (by assumption) | (refine gs_n (by decide) ?_; assumption)) | (refine gs_n (by decide) ?_; first | assumption | exact gs_s (by assumption) | (refine gs_n (by decide) ?_; assumption))) | (refine gs_n (by decide) ?_; first | assumption | exact gs_s (by first | assumption | exact gs_s (by assumption) | (refine gs_n (by decide) ?_; assumption)) | (refine gs_n (by decide) ?_; first | assumption | exact gs_s (by assumption) | (refine gs_n (by decide) ?_; assumption)))) rfl rfl ?_
          refine am_B.run (hp := false) (sp := []) 200 rfl ?_
          refine am_B.get rfl rfl rfl (by first | assumption | exact gs_s (by first | assumption | exact gs_s (by first | assumption | exact gs_s (by assumption) | (refine gs_n (by decide) ?_; assumption)) | (refine gs_n (by decide) ?_; first | assumption | exact gs_s (by assumption) | (refine gs_n (by decide) ?_; assumption))) | (refine gs_n (by decide) ?_; first | assumption | exact gs_s (by first | assumption | exact gs_s (by assumption) | (refine gs_n (by decide) ?_; assumption)) | (refine gs_n (by decide) ?_; first | assumption | exact gs_s (by assumption) | (refine gs_n (by decide) ?_; assumption)))) rfl rfl ?_
          refine am_B.run (hp := false) (sp := []) 200 rfl ?_
          refine am_B.ald rfl h3 (vp_n htT rfl) rfl ?_
          rw [nI_clamp (show t < 2 ^ 31 by omega)]
          refine am_B.run (hp := false) (sp := []) 200 rfl ?_
          refine am_B.icmp_ne rfl rfl (fun z => ?_) (fun z => ?_)
          · exact J93 L _ (J.keep fun k he hl' => absurd hl' z)
          · refine am_B.run (hp := false) (sp := []) 200 rfl ?_
            refine am_B.icmp_eq rfl rfl (fun z2 => ?_) (fun z2 => ?_)
            · exact J93 L _ (J.keep fun k he hl' => absurd (he.2.2.symm.trans z2) (nI_neg1 (by have := he.2.1; omega)))
            · obtain ⟨k, hk, hgk⟩ := (hwf m (by omega) t (by omega)).resolve_left z2
              have he : Ed n T gf m t k := ⟨by omega, hk, hgk⟩
              have hk2 : k < 200 := by omega
              have b1 := hp k hk
              have b2 := J.1
              refine am_B.run (hp := false) (sp := []) 200 rfl ?_
              rw [hgk]
              refine am_B.ald rfl hP' (vp_n hk2 rfl) rfl ?_
              rw [nI_clamp (show k < 2 ^ 31 by omega)]
              refine am_B.run (hp := false) (sp := []) 200 rfl ?_
              rw [nI_add]
              refine am_B.callS (ci := 0) (n := 2) (as := [.int (nI L), .int (nI (p k + 1))]) rfl rfl rfl (ct_MA_min _ L (p k + 1) (by omega) (by omega)) rfl rfl (by exact Nat.le_of_ble_eq_true rfl) rfl rfl rfl (fun v h' q => ?_)
              obtain ⟨rfl, rfl⟩ := q
              refine am_B.run (hp := false) (sp := [93]) 200 rfl ?_
              exact J93 _ _ (J.put hn he z)
      obtain ⟨W', h15', hR', hP'⟩ := G b
      obtain ⟨h2, h3, h9, h12, h13, h14, h16⟩ := W'
      have b1 := hp m (by omega)
      refine am_B.run (hp := false) (sp := []) 200 rfl ?_
      refine am_B.get rfl rfl rfl (by first | assumption | exact gs_s (by first | assumption | exact gs_s (by first | assumption | exact gs_s (by assumption) | (refine gs_n (by decide) ?_; assumption)) | (refine gs_n (by decide) ?_; first | assumption | exact gs_s (by assumption) | (refine gs_n (by decide) ?_; assumption))) | (refine gs_n (by decide) ?_; first | assumption | exact gs_s (by first | assumption | exact gs_s (by assumption) | (refine gs_n (by decide) ?_; assumption)) | (refine gs_n (by decide) ?_; first | assumption | exact gs_s (by assumption) | (refine gs_n (by decide) ?_; assumption)))) rfl rfl ?_
      refine am_B.run (hp := false) (sp := []) 200 rfl ?_
      refine am_B.get rfl rfl rfl (by first | assumption | exact gs_s (by first | assumption | exact gs_s (by first | assumption | exact gs_s (by assumption) | (refine gs_n (by decide) ?_; assumption)) | (refine gs_n (by decide) ?_; first | assumption | exact gs_s (by assumption) | (refine gs_n (by decide) ?_; assumption))) | (refine gs_n (by decide) ?_; first | assumption | exact gs_s (by first | assumption | exact gs_s (by assumption) | (refine gs_n (by decide) ?_; assumption)) | (refine gs_n (by decide) ?_; first | assumption | exact gs_s (by assumption) | (refine gs_n (by decide) ?_; assumption)))) rfl rfl ?_
      refine am_B.run (hp := false) (sp := []) 200 rfl ?_
      refine am_B.icmp_ge rfl rfl (fun z => absurd z (nI_ge (by omega) (by omega))) (fun _ => ?_)
      refine am_B.run (hp := false) (sp := []) 200 rfl ?_
      refine am_B.ald rfl hP' (vp_n hm2 rfl) rfl ?_
      rw [nI_clamp (show m < 2 ^ 31 by omega)]
      refine am_B.run (hp := false) (sp := []) 200 rfl ?_
      refine am_B.callV (ci := 3) (n := 1) (as := [.int (nI l)]) rfl rfl rfl (ct_PF_traceWeight _ l lc hl h13 h14) rfl rfl (by exact Nat.le_of_ble_eq_true rfl) rfl h14 rfl rfl (fun v h' q => ?_)
      obtain ⟨rfl, rfl⟩ := q
      refine am_B.run (hp := false) (sp := []) 200 rfl ?_
      rw [nI_add]
      refine am_B.callS (ci := 0) (n := 2) (as := [.int (nI 1073741824), .int (nI (p m + (lc l * 4096 + 1)))]) rfl rfl rfl (ct_MA_min _ 1073741824 (p m + (lc l * 4096 + 1)) (by decide) (by omega)) rfl rfl (by exact Nat.le_of_ble_eq_true rfl) rfl rfl rfl (fun v h' q => ?_)
      obtain ⟨rfl, rfl⟩ := q
      refine am_B.run (hp := false) (sp := [35]) 200 rfl ?_
      refine M T 0 _ _ (by omega) ⟨Nat.min_le_left _ _, Nat.min_le_right _ _, fun t' k ht => absurd ht (by omega), ?_⟩
      rcases Nat.le_total 1073741824 (p m + (lc l * 4096 + 1)) with z | z
      · exact Or.inl (Nat.min_eq_left z)
      · exact Or.inr (Or.inl (Nat.min_eq_right z))
  refine am_B.run (hp := false) (sp := [3]) 200 rfl ?_
  have e := L n 0 g' none none none (by omega) (fun i hi => absurd hi (by omega))
  rw [gs_id hR] at e
  exact e
