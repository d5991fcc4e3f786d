/-! RELAXING to the end -/
def sm (f : Nat → Nat) : Nat → Nat
  | 0 => 0
  | n + 1 => sm f n + f n
theorem sm_le {f g : Nat → Nat} : ∀ {n : Nat}, (∀ i, i < n → f i ≤ g i) → sm f n ≤ sm g n
  | 0, _ => Nat.le_refl _
  | n + 1, h => Nat.add_le_add (sm_le fun i hi => h i (by omega)) (h n (by omega))
theorem sm_lt {f g : Nat → Nat} : ∀ {n m : Nat}, (∀ i, i < n → f i ≤ g i) → m < n → f m < g m → sm f n < sm g n
  | 0, m, _, hm, _ => absurd hm (by omega)
  | n + 1, m, h, hm, hl => by
    by_cases z : m = n
    · subst z
      have := sm_le (n := m) fun i hi => h i (by omega)
      show sm f m + f m < sm g m + g m
      omega
    · have := sm_lt (n := n) (m := m) (fun i hi => h i (by omega)) (by omega) hl
      have := h n (by omega)
      show sm f n + f n < sm g n + g n
      omega
/-- the least of those that are P -/
theorem ex_min {n : Nat} (D : Nat → Nat) (P : Nat → Prop) : ∀ v m, D m ≤ v → m < n → P m → ∃ m', m' < n ∧ P m' ∧ ∀ i, i < n → P i → D m' ≤ D i := by
  intro v
  induction v with
  | zero =>
    intro m h1 h2 h3
    exact ⟨m, h2, h3, fun i _ _ => by omega⟩
  | succ v ih =>
    intro m h1 h2 h3
    by_cases z : ∃ i, i < n ∧ P i ∧ D i < D m
    · obtain ⟨i, z1, z2, z3⟩ := z
      exact ih i (by omega) z1 z2
    · refine ⟨m, h2, h3, fun i i1 i2 => ?_⟩
      rcases Nat.lt_or_ge (D i) (D m) with q | q
      · exact absurd ⟨i, i1, i2, q⟩ z
      · exact q
/-- what relaxing comes to -/
def fixOK (n T : Nat) (gf : Nat → Int32) (w b D : Nat → Nat) : Prop :=
  closed n T gf w D ∧ (∀ i, i < n → D i ≤ b i) ∧ just n T gf w b D ∧ ∀ D' : Nat → Nat, (∀ i, i < n → D' i ≤ b i) → closed n T gf w D' → ∀ i, i < n → D' i ≤ D i
theorem ex_fix (n T : Nat) (gf : Nat → Int32) (w b : Nat → Nat) : ∀ (s : Nat) (D : Nat → Nat), sm D n ≤ s → (∀ i, i < n → D i ≤ b i) → just n T gf w b D → (∀ D' : Nat → Nat, (∀ i, i < n → D' i ≤ b i) → closed n T gf w D' → ∀ i, i < n → D' i ≤ D i) → ∃ D, fixOK n T gf w b D := by
  intro s
  induction s with
  | zero =>
    intro D h1 h2 h3 h4
    refine ⟨D, fun m hm t k he => ?_, h2, h3, h4⟩
    have : D m = 0 := by
      rcases Nat.eq_zero_or_pos (D m) with q | q
      · exact q
      · have := sm_lt (f := fun _ => 0) (g := D) (n := n) (m := m) (fun _ _ => Nat.zero_le _) hm q
        omega
    omega
  | succ s ih =>
    intro D h1 h2 h3 h4
    by_cases z : closed n T gf w D
    · exact ⟨D, z, h2, h3, h4⟩
    · have : ∃ m t k, m < n ∧ Ed n T gf m t k ∧ D k + w t < D m := by
        refine Classical.byContradiction fun q => z fun m hm t k he => ?_
        rcases Nat.lt_or_ge (D k + w t) (D m) with q1 | q1
        · exact absurd ⟨m, t, k, hm, he, q1⟩ q
        · exact q1
      obtain ⟨m, t, k, hm, he, hl⟩ := this
      have hkm : k ≠ m := by rintro rfl; omega
      have us : va_up D m (D k + w t) m = D k + w t := by simp [va_up]
      have un : ∀ i, i ≠ m → va_up D m (D k + w t) i = D i := fun i hi => by simp [va_up, hi]
      have le : ∀ i, va_up D m (D k + w t) i ≤ D i := fun i => by
        by_cases z : i = m
        · subst z; rw [us]; omega
        · rw [un i z]; exact Nat.le_refl _
      have hs := sm_lt (f := va_up D m (D k + w t)) (g := D) (n := n) (m := m) (fun i _ => le i) hm (by rw [us]; exact hl)
      refine ih (va_up D m (D k + w t)) (by omega) (fun i hi => Nat.le_trans (le i) (h2 i hi)) (fun m' hm' => ?_) (fun D' hD hc i hi => ?_)
      · by_cases z : m' = m
        · subst z
          exact Or.inr ⟨t, k, he, by rw [us, un k hkm]; exact Nat.le_refl _⟩
        · rw [un m' z]
          rcases h3 m' hm' with q | ⟨t', k', q1, q2⟩
          · exact Or.inl q
          · exact Or.inr ⟨t', k', q1, Nat.le_trans (Nat.add_le_add_right (le k') _) q2⟩
      · by_cases z : i = m
        · subst z
          rw [us]
          have := hc i hi t k he
          have := h4 D' hD hc k he.2.1
          omega
        · rw [un i z]
          exact h4 D' hD hc i hi
theorem ex_fix0 (n T : Nat) (gf : Nat → Int32) (w b : Nat → Nat) : ∃ D, fixOK n T gf w b D :=
  ex_fix n T gf w b (sm b n) b (Nat.le_refl _) (fun _ _ => Nat.le_refl _) (fun _ _ => Or.inl rfl) (fun _ hD _ => hD)
/-- those that aren't settled -/
def un1 (D r : Nat → Nat) (i : Nat) : Nat := if D i = r i then 0 else 1
theorem un1_le (D r : Nat → Nat) (i : Nat) : un1 D r i ≤ 1 := by
  unfold un1
  split <;> omega
theorem sm_one : ∀ n, sm (fun _ => 1) n = n
  | 0 => rfl
  | n + 1 => by show sm (fun _ => 1) n + 1 = n + 1; rw [sm_one n]
/-- a pass settles one more -/
theorem pass_less {n T : Nat} {gf : Nat → Int32} {w b D r r' : Nat → Nat} {x : Nat} (hD : fixOK n T gf w b D) (hw : ∀ t, t < T → 1 ≤ w t) (hb : ∀ i, i < n → r i ≤ b i) (hr : ∀ i, i < n → D i ≤ r i) (hp : passOK n T gf w r r' x) :
    (∀ i, i < n → r' i ≤ b i) ∧ (∀ i, i < n → D i ≤ r' i) ∧ ((∀ i, i < n → D i = r i) ∨ sm (un1 D r') n < sm (un1 D r) n) := by
  obtain ⟨p1, p2, p3, p4, p5, p6⟩ := hp
  have hr' := p6 D hr hD.1
  refine ⟨fun i hi => Nat.le_trans (p1 i) (hb i hi), hr', ?_⟩
  by_cases z : ∀ i, i < n → D i = r i
  · exact Or.inl z
  · have : ∃ m, m < n ∧ ¬ D m = r m := by
      refine Classical.byContradiction fun q => z fun i hi => ?_
      exact Classical.byContradiction fun q2 => q ⟨i, hi, q2⟩
    obtain ⟨m, hm, hne⟩ := this
    obtain ⟨m', k1, k2, k3⟩ := ex_min (n := n) D (fun i => ¬ D i = r i) (D m) m (Nat.le_refl _) hm hne
    refine Or.inr (sm_lt (m := m') (fun i hi => ?_) k1 ?_)
    · unfold un1
      have := p1 i
      have := hr' i hi
      have := hr i hi
      split <;> split <;> omega
    · have e2 : D m' = r' m' := by
        rcases hD.2.2.1 m' k1 with q | ⟨t, k, he, hl⟩
        · have := hb m' k1
          have := hr m' k1
          omega
        · have hk : D k = r k := by
            refine Classical.byContradiction fun q => ?_
            have := k3 k he.2.1 q
            have := hw t he.1
            omega
          have := p5 m' k1 t k he
          have := hr' m' k1
          omega
      unfold un1
      rw [if_pos e2, if_neg k2]
      decide
/-- at first one is settled -/
theorem first_less {n T : Nat} {gf : Nat → Int32} {w b D : Nat → Nat} (hD : fixOK n T gf w b D) (hw : ∀ t, t < T → 1 ≤ w t) (hn : 0 < n) : sm (un1 D b) n < n := by
  obtain ⟨m, k1, -, k3⟩ := ex_min (n := n) D (fun _ => True) (D 0) 0 (Nat.le_refl _) hn trivial
  have e : D m = b m := by
    rcases hD.2.2.1 m k1 with q | ⟨t, k, he, hl⟩
    · exact q
    · have := k3 k he.2.1 trivial
      have := hw t he.1
      omega
  have := sm_lt (f := un1 D b) (g := fun _ => 1) (n := n) (m := m) (fun i _ => un1_le D b i) k1 (by unfold un1; rw [if_pos e]; decide)
  rwa [sm_one] at this
theorem un1_zero {D r : Nat → Nat} : ∀ {n : Nat}, sm (un1 D r) n = 0 → ∀ i, i < n → D i = r i
  | 0, _, i, hi => absurd hi (by omega)
  | n + 1, h, i, hi => by
    have h1 : sm (un1 D r) n + un1 D r n = 0 := h
    by_cases z : i = n
    · subst z
      refine Classical.byContradiction fun q => ?_
      unfold un1 at h1
      rw [if_neg q] at h1
      omega
    · exact un1_zero (n := n) (by omega) i (by omega)
theorem fixOK.congr {n T : Nat} {gf : Nat → Int32} {w b D r : Nat → Nat} (hD : fixOK n T gf w b D) (he : ∀ i, i < n → D i = r i) : fixOK n T gf w b r := by
  obtain ⟨h1, h2, h3, h4⟩ := hD
  refine ⟨fun m hm t k hd => ?_, fun i hi => ?_, fun m hm => ?_, fun D' q1 q2 i hi => ?_⟩
  · rw [← he m hm, ← he k hd.2.1]
    exact h1 m hm t k hd
  · rw [← he i hi]
    exact h2 i hi
  · rw [← he m hm]
    rcases h3 m hm with q | ⟨t, k, q1, q2⟩
    · exact Or.inl q
    · exact Or.inr ⟨t, k, q1, by rw [← he k q1.2.1]; exact q2⟩
  · rw [← he i hi]
    exact h4 D' q1 q2 i hi
/-- no pass finds more -/
theorem fixOK.still {n T : Nat} {gf : Nat → Int32} {w b D r : Nat → Nat} (hD : fixOK n T gf w b D) (hb : ∀ i, i < n → r i ≤ b i) (hr : ∀ i, i < n → D i ≤ r i) (hp : passOK n T gf w r r 0) : ∀ i, i < n → D i = r i := fun i hi => by
  have := hD.2.2.2 r hb (fun m hm t k he => hp.2.2.2.2.1 m hm t k he) i hi
  have := hr i hi
  omega
set_option maxRecDepth 100000 in
set_option maxHeartbeats 4000000 in
theorem ct_MG_relax (h : am_H) (ro n T : Nat) (ex la pc : Int32) (wa : Nat) (gf : Nat → Int32) (w b : Nat → Nat) (hro : 13 ≤ ro) (hwa : 13 ≤ wa) (hrw : ro ≠ wa) (hn : n ≤ 200) (hT : T ≤ 10) (hwf : wfF n T gf) (hw : ∀ t, t < T → w t ≤ 36865) (hw1 : ∀ t, t < T → 1 ≤ w t) (hr : ∀ i, i < n → b i ≤ 1073741824) (h2 : h[2]? = some (c_NT pc (nI T))) (h9 : h[9]? = some (c_MG ex (nI n) la)) (h12 : h[12]? = some (ia 2000 gf))
    (h15 : h[wa]? = some (ia 10 fun t => nI (w t))) (hR : h[ro]? = some (ia 200 fun i => nI (b i))) : am_Ct am_G0 m_MG_relax 1 0 0 [.ref 9, .ref ro, .ref wa] h (fun v h' => ∃ r, v = none ∧ h' = h.set ro (ia 200 fun i => nI (r i)) ∧ fixOK n T gf w b r ∧ ∀ i, n ≤ i → r i = b i) := by
  obtain ⟨D, hD⟩ := ex_fix0 n T gf w b
  refine am_Ct.of (E := E_MG_relax) e_MG_relax (by decide) (Nat.le_of_ble_eq_true rfl) ?_
  have G : ∀ rc : Nat → Nat, (h.set ro (ia 200 fun i => nI (rc i)))[2]? = some (c_NT pc (nI T)) ∧ (h.set ro (ia 200 fun i => nI (rc i)))[9]? = some (c_MG ex (nI n) la) ∧ (h.set ro (ia 200 fun i => nI (rc i)))[12]? = some (ia 2000 gf) ∧ (h.set ro (ia 200 fun i => nI (rc i)))[wa]? = some (ia 10 fun t => nI (w t)) ∧ (h.set ro (ia 200 fun i => nI (rc i)))[ro]? = some (ia 200 fun i => nI (rc i)) :=
    fun rc => ⟨gs_n (by omega) h2, gs_n (by omega) h9, gs_n (by omega) h12, gs_n hrw h15, gs_s hR⟩
  have L : ∀ d p r, p + d = n → (∀ i, i < n → r i ≤ b i) → (∀ i, i < n → D i ≤ r i) → (∀ i, n ≤ i → r i = b i) → sm (un1 D r) n ≤ d → (0 < d → sm (un1 D r) n < d) → am_B E_MG_relax (am_rm 1 0 0) (am_ZM E_MG_relax 0 0 (fun v h' => ∃ r, v = none ∧ h' = h.set ro (ia 200 fun i => nI (r i)) ∧ fixOK n T gf w b r ∧ ∀ i, n ≤ i → r i = b i)) 2 [some (.ref 9), some (.ref ro), some (.ref wa), some (.int (nI p))] [] (h.set ro (ia 200 fun i => nI (r i))) 0 0 := by
    intro d
    induction d with
    | zero =>
      intro p r hp i1 i2 i3 i4 i5
      obtain rfl : p = n := by omega
      obtain ⟨g2, g9, g12, g15, gR⟩ := G r
      refine am_B.run (hp := false) (sp := []) 200 rfl ?_
      refine am_B.get rfl rfl rfl (by first | assumption | exact gs_s (by first | assumption | exact gs_s (by first | assumption | exact gs_s (by assumption) | (refine gs_n (by decide) ?_; assumption)) | (refine gs_n (by decide) ?_; first | assumption | exact gs_s (by assumption) | (refine gs_n (by decide) ?_; assumption))) | (refine gs_n (by decide) ?_; first | assumption | exact gs_s (by first | assumption | exact gs_s (by assumption) | (refine gs_n (by decide) ?_; assumption)) | (refine gs_n (by decide) ?_; first | assumption | exact gs_s (by assumption) | (refine gs_n (by decide) ?_; assumption)))) rfl rfl ?_
      refine am_B.run (hp := false) (sp := []) 200 rfl ?_
      refine am_B.icmp_ge rfl rfl (fun _ => ?_) (fun z => absurd (nI_le (by omega) (by omega)) z)
      refine am_B.run (hp := false) (sp := []) 200 rfl ?_
      exact am_B.vret rfl rfl rfl ⟨r, rfl, rfl, hD.congr (un1_zero (by omega)), i3⟩
    | succ d ih =>
      intro p r hp i1 i2 i3 i4 i5
      have i6 := i5 (by omega)
      obtain ⟨g2, g9, g12, g15, gR⟩ := G r
      refine am_B.run (hp := false) (sp := []) 200 rfl ?_
      refine am_B.get rfl rfl rfl (by first | assumption | exact gs_s (by first | assumption | exact gs_s (by first | assumption | exact gs_s (by assumption) | (refine gs_n (by decide) ?_; assumption)) | (refine gs_n (by decide) ?_; first | assumption | exact gs_s (by assumption) | (refine gs_n (by decide) ?_; assumption))) | (refine gs_n (by decide) ?_; first | assumption | exact gs_s (by first | assumption | exact gs_s (by assumption) | (refine gs_n (by decide) ?_; assumption)) | (refine gs_n (by decide) ?_; first | assumption | exact gs_s (by assumption) | (refine gs_n (by decide) ?_; assumption)))) rfl rfl ?_
      refine am_B.run (hp := false) (sp := []) 200 rfl ?_
      refine am_B.icmp_ge rfl rfl (fun z => absurd z (nI_ge (by omega) (by omega))) (fun _ => ?_)
      refine am_B.run (hp := false) (sp := []) 200 rfl ?_
      refine am_B.callV (ci := 2) (n := 2) (as := [.ref ro, .ref wa]) rfl rfl rfl (ct_MG_relaxOnce _ ro n T ex la pc wa gf w r hro hwa hrw hn hT hwf hw (fun i hi => Nat.le_trans (i1 i hi) (hr i hi)) g2 g9 g12 g15 gR) rfl rfl (by exact Nat.le_of_ble_eq_true rfl) rfl g9 rfl rfl (fun v h' q => ?_)
      obtain ⟨r', x, rfl, rfl, hq⟩ := q
      rw [gs_ss]
      have hx := hq.2.2.1
      obtain ⟨q1, q2, q3⟩ := pass_less hD hw1 i1 i2 hq
      have q4 : ∀ i, n ≤ i → r' i = b i := fun i hi => (hq.2.1 i hi).trans (i3 i hi)
      refine am_B.run (hp := false) (sp := []) 200 rfl ?_
      refine am_B.if_ne rfl rfl (fun z => ?_) (fun z => ?_)
      · refine am_B.run (hp := false) (sp := [2]) 200 rfl ?_
        rw [nI_add]
        refine ih (p + 1) r' (by omega) q1 q2 q4 ?_ ?_
        · rcases q3 with q3 | q3
          · have e : sm (un1 D r') n = 0 := by
              have : sm (un1 D r') n ≤ sm (fun _ => 0) n := sm_le fun i hi => by
                have := q3 i hi
                have := hq.1 i
                have := q2 i hi
                unfold un1
                rw [if_pos (by omega)]
                exact Nat.le_refl _
              have z0 : ∀ n, sm (fun _ => 0) n = 0 := fun n => by
                induction n with
                | zero => rfl
                | succ n ih => show sm (fun _ => 0) n + 0 = 0; rw [ih]
              rw [z0] at this
              omega
            omega
          · omega
        · intro hd
          rcases q3 with q3 | q3
          · have e : sm (un1 D r') n = 0 := by
              have : sm (un1 D r') n ≤ sm (fun _ => 0) n := sm_le fun i hi => by
                have := q3 i hi
                have := hq.1 i
                have := q2 i hi
                unfold un1
                rw [if_pos (by omega)]
                exact Nat.le_refl _
              have z0 : ∀ n, sm (fun _ => 0) n = 0 := fun n => by
                induction n with
                | zero => rfl
                | succ n ih => show sm (fun _ => 0) n + 0 = 0; rw [ih]
              rw [z0] at this
              omega
            omega
          · omega
      · have hx0 : x = 0 := by
          rcases hx with rfl | rfl
          · rfl
          · exact absurd z (by decide)
        subst hx0
        obtain rfl := hq.2.2.2.1 rfl
        refine am_B.run (hp := false) (sp := []) 200 rfl ?_
        exact am_B.vret rfl rfl rfl ⟨_, rfl, rfl, hD.congr (hD.still i1 i2 hq), i3⟩
  refine am_B.run (hp := false) (sp := [2]) 200 rfl ?_
  have e := L n 0 b (by omega) (fun _ _ => Nat.le_refl _) hD.2.1 (fun _ _ => rfl) ?_ (fun z => first_less hD hw1 z)
  · rw [gs_id hR] at e
    exact e
  · rcases Nat.eq_zero_or_pos n with rfl | z
    · exact Nat.le_refl _
    · exact Nat.le_of_lt (first_less hD hw1 z)
