/-! WALKING the best way -/
/-- a move that is written down, and where it leads -/
def mvS (n T sz : Nat) (gl gf : Nat → Int32) (lc tl w : Nat → Nat) (R : Nat → Nat → Nat) (pos m x pos' m' c : Nat) : Prop :=
  (pos' = pos + 1 ∧ c = 0 ∧ ∃ t, pos < sz ∧ Ed n T gf m t m' ∧ gl t = nI (tl pos) ∧ R (pos + 1) m' + 1 = R pos m ∧ x = mvN 0 (t + 1) (tl pos + 1) m) ∨
  (pos' = pos + 1 ∧ m' = m ∧ c = lc (tl pos) ∧ pos < sz ∧ R (pos + 1) m + (lc (tl pos) * 4096 + 1) = R pos m ∧ x = mvN 1 0 (tl pos + 1) m) ∨
  (pos' = pos ∧ ∃ t, Ed n T gf m t m' ∧ w t = c * 4096 + 1 ∧ c ≤ 9 ∧ R pos m' + w t = R pos m ∧ x = mvN 2 (t + 1) 0 m)
theorem mvS.step {n T sz : Nat} {gl gf : Nat → Int32} {lc tl w : Nat → Nat} {R : Nat → Nat → Nat} {pos m x pos' m' c : Nat} (h : mvS n T sz gl gf lc tl w R pos m x pos' m' c) : rStep n T sz gl gf lc tl w R pos m pos' m' c := by
  rcases h with ⟨a, b, t, a1, a2, a3, a4, -⟩ | ⟨a, b, b2, a1, a2, -⟩ | ⟨a, t, a1, a2, a3, a4, -⟩
  · exact Or.inl ⟨a, b, t, a1, a2, a3, a4⟩
  · exact Or.inr (Or.inl ⟨a, b, b2, a1, a2⟩)
  · exact Or.inr (Or.inr ⟨a, t, a1, a2, a3, a4⟩)
/-- the first i moves stand in the path -/
def wkI (n T sz : Nat) (gl gf : Nat → Int32) (lc tl w : Nat → Nat) (R : Nat → Nat → Nat) (i : Nat) (g : Nat → Int32) (ps ms : Nat → Nat) : Prop :=
  ps 0 = 0 ∧ ms 0 = 0 ∧ (∀ j, j ≤ i → ps j ≤ sz ∧ ms j < n ∧ R (ps j) (ms j) < 1073741824 ∧ R (ps j) (ms j) % 4096 + j = R 0 0 % 4096) ∧
  ∀ j, j < i → ∃ x c, g j = nI x ∧ mvS n T sz gl gf lc tl w R (ps j) (ms j) x (ps (j + 1)) (ms (j + 1)) c
theorem wkI.more {n T sz l : Nat} {gl gf : Nat → Int32} {lc tl w : Nat → Nat} {R : Nat → Nat → Nat} {i : Nat} {g : Nat → Int32} {ps ms : Nat → Nat} (o : rOK n T sz l gl gf lc tl w R) (hn : n ≤ 200) (hs : sz ≤ 8) (h : wkI n T sz gl gf lc tl w R i g ps ms) {x pos' m' c : Nat} (q : mvS n T sz gl gf lc tl w R (ps i) (ms i) x pos' m' c) :
    wkI n T sz gl gf lc tl w R (i + 1) (upd g i (nI x)) (fun j => if j = i + 1 then pos' else ps j) (fun j => if j = i + 1 then m' else ms j) := by
  obtain ⟨h1, h2, h3, h4⟩ := h
  refine ⟨h1, h2, fun j hj => ?_, fun j hj => ?_⟩
  · by_cases z : j = i + 1
    · subst z
      simp only [if_true]
      obtain ⟨a1, a2, a3, a4⟩ := h3 i (Nat.le_refl _)
      obtain ⟨s1, s2, s3, s4, s5⟩ := o.step hn hs a1 a2 a3 q.step
      exact ⟨s4, s5, s3, by omega⟩
    · simp only [z, if_false]
      exact h3 j (by omega)
  · by_cases z : j = i
    · subst z
      simp only [if_true, show j ≠ j + 1 by omega, if_false]
      exact ⟨x, c, pk_us, q⟩
    · simp only [show j ≠ i + 1 by omega, show j + 1 ≠ i + 1 by omega, if_false]
      obtain ⟨x', c', e1, e2⟩ := h4 j (by omega)
      exact ⟨x', c', (pk_un z).trans e1, e2⟩
set_option maxRecDepth 100000 in
set_option maxHeartbeats 4000000 in
theorem ct_PF_walk (h : am_H) (tr q n T sz l : Nat) (pc ex la tm al lf wf : Int32) (pth P : Nat) (g : Nat → Int32) (gl gf gt : Nat → Int32) (lc tl w : Nat → Nat) (R : Nat → Nat → Nat) (htr : tr = 28 + 3 * q) (hn : n ≤ 200) (hn0 : 0 < n) (hT : T ≤ 10) (hsz : sz ≤ 8) (hwf : wfF n T gf)
    (htl : ∀ i, i < sz → gt i = nI (tl i) ∧ tl i < 6) (hlc : ∀ i, i < 6 → lc i ≤ 9) (W : pfW h n T pc ex la gl gf lc) (h15 : h[15]? = some (ia 10 fun t => nI (w t))) (hrow : ∀ i, i ≤ sz → h[17 + i]? = some (ia 200 fun k => nI (R i k)))
    (o : rOK n T sz l gl gf lc tl w R) (hf : R 0 0 < 1073741824) (hTR : h[tr]? = some (c_TR q (nI sz) tm al lf wf (nI (R 0 0 % 4096)) pth)) (hLB : h[29 + 3 * q]? = some (ia 8 gt)) (hPA : h[pth]? = some (ia P g)) (hP : R 0 0 % 4096 ≤ P) (hP2 : P < 2 ^ 31) (hp0 : 26 ≤ pth) (hp1 : pth ≠ 28 + 3 * q) (hp2 : pth ≠ 29 + 3 * q) :
    am_Ct am_G0 m_PF_walk 3 0 0 [.ref 14, .ref tr] h (fun v h' => v = none ∧ ∃ g' ps ms, h' = h.set pth (ia P g') ∧ wkI n T sz gl gf lc tl w R (R 0 0 % 4096) g' ps ms) := by
  subst htr
  have hw : ∀ t, t < T → w t ≤ 36865 := fun t ht => by
    obtain ⟨c, c1, c2⟩ := o.wgt t ht
    omega
  refine am_Ct.of (E := E_PF_walk) e_PF_walk (by decide) (Nat.le_of_ble_eq_true rfl) ?_
  have L : ∀ (d i pos m : Nat) (g : Nat → Int32) (ps ms : Nat → Nat) (l5 l6 : Option Value), i + d = R 0 0 % 4096 → pos = ps i → m = ms i → wkI n T sz gl gf lc tl w R i g ps ms → am_B E_PF_walk (am_rm 3 0 0) (am_ZM E_PF_walk 0 0 (fun v h' => v = none ∧ ∃ g' ps ms, h' = h.set pth (ia P g') ∧ wkI n T sz gl gf lc tl w R (R 0 0 % 4096) g' ps ms)) 7
      [some (.ref 14), some (.ref (28 + 3 * q)), some (.int (nI pos)), some (.int (nI m)), some (.int (nI i)), l5, l6] [] (h.set pth (ia P g)) 0 0 := by
    intro d
    induction d with
    | zero =>
      intro i pos m g ps ms l5 l6 hi e1 e2 I
      have hTR' : (h.set pth (ia P g))[28 + 3 * q]? = some (c_TR q (nI sz) tm al lf wf (nI (R 0 0 % 4096)) pth) := gs_n hp1 hTR
      refine am_B.run (hp := false) (sp := []) 200 rfl ?_
      refine am_B.get rfl rfl rfl (by first | assumption | exact gs_s (by first | assumption | exact gs_s (by first | assumption | exact gs_s (by assumption) | (refine gs_n (by decide) ?_; assumption)) | (refine gs_n (by decide) ?_; first | assumption | exact gs_s (by assumption) | (refine gs_n (by decide) ?_; assumption))) | (refine gs_n (by decide) ?_; first | assumption | exact gs_s (by first | assumption | exact gs_s (by assumption) | (refine gs_n (by decide) ?_; assumption)) | (refine gs_n (by decide) ?_; first | assumption | exact gs_s (by assumption) | (refine gs_n (by decide) ?_; assumption)))) rfl rfl ?_
      refine am_B.run (hp := false) (sp := []) 200 rfl ?_
      refine am_B.icmp_ge rfl rfl (fun _ => ?_) (fun z => absurd (nI_le (by omega) (by omega)) z)
      refine am_B.run (hp := false) (sp := []) 200 rfl ?_
      refine am_B.vret rfl rfl rfl ⟨rfl, g, ps, ms, rfl, ?_⟩
      have : i = R 0 0 % 4096 := by omega
      rwa [this] at I
    | succ d ih =>
      intro i pos m g ps ms l5 l6 hi e1 e2 I
      subst e1 e2
      have hTR' : (h.set pth (ia P g))[28 + 3 * q]? = some (c_TR q (nI sz) tm al lf wf (nI (R 0 0 % 4096)) pth) := gs_n hp1 hTR
      have hLB' : (h.set pth (ia P g))[29 + 3 * q]? = some (ia 8 gt) := gs_n hp2 hLB
      have hPA' : (h.set pth (ia P g))[pth]? = some (ia P g) := gs_s hPA
      have W' := W.set (Or.inl (show 17 ≤ pth by omega)) (ia P g)
      have W2 := W'
      have h15' : (h.set pth (ia P g))[15]? = some (ia 10 fun t => nI (w t)) := gs_n (by omega) h15
      have hrow' : ∀ i, i ≤ sz → (h.set pth (ia P g))[17 + i]? = some (ia 200 fun k => nI (R i k)) := fun i hi => gs_n (by omega) (hrow i hi)
      obtain ⟨h2, h3, h9, h12, h13, h14, h16⟩ := W'
      obtain ⟨a1, a2, a3, a4⟩ := I.2.2.1 i (Nat.le_refl _)
      have hm2 : ms i < 200 := by omega
      have h0 : 0 < R (ps i) (ms i) := by
        rcases Nat.eq_zero_or_pos (R (ps i) (ms i)) with z | z
        · rw [z] at a4
          omega
        · exact z
      -- behind the two questions
      have J70 : ∀ (x pos' m' c : Nat) (l6 : Int32), mvS n T sz gl gf lc tl w R (ps i) (ms i) x pos' m' c → am_B E_PF_walk (am_rm 3 0 0) (am_ZM E_PF_walk 0 0 (fun v h' => v = none ∧ ∃ g' ps ms, h' = h.set pth (ia P g') ∧ wkI n T sz gl gf lc tl w R (R 0 0 % 4096) g' ps ms)) 70
          [some (.ref 14), some (.ref (28 + 3 * q)), some (.int (nI pos')), some (.int (nI m')), some (.int (nI i)), some (.int (nI x)), some (.int l6)] [] (h.set pth (ia P (upd g i (nI x)))) 0 0 := by
        intro x pos' m' c l6 hx
        refine am_B.run (hp := false) (sp := [7]) 200 rfl ?_
        rw [nI_add]
        refine ih (i + 1) pos' m' _ _ _ _ _ (by omega) ?_ ?_ (I.more o hn hsz hx)
        · simp only [if_true]
        · simp only [if_true]
      refine am_B.run (hp := false) (sp := []) 200 rfl ?_
      refine am_B.get rfl rfl rfl (by first | assumption | exact gs_s (by first | assumption | exact gs_s (by first | assumption | exact gs_s (by assumption) | (refine gs_n (by decide) ?_; assumption)) | (refine gs_n (by decide) ?_; first | assumption | exact gs_s (by assumption) | (refine gs_n (by decide) ?_; assumption))) | (refine gs_n (by decide) ?_; first | assumption | exact gs_s (by first | assumption | exact gs_s (by assumption) | (refine gs_n (by decide) ?_; assumption)) | (refine gs_n (by decide) ?_; first | assumption | exact gs_s (by assumption) | (refine gs_n (by decide) ?_; assumption)))) rfl rfl ?_
      refine am_B.run (hp := false) (sp := []) 200 rfl ?_
      refine am_B.icmp_ge rfl rfl (fun z => absurd z (nI_ge (by omega) (by omega))) (fun _ => ?_)
      refine am_B.run (hp := false) (sp := []) 200 rfl ?_
      refine am_B.callV (ci := 3) (n := 3) (as := [.ref (28 + 3 * q), .int (nI (ps i)), .int (nI (ms i))]) rfl rfl rfl (ct_PF_bestMove _ (28 + 3 * q) q n T sz l (ps i) (ms i) pc ex la tm al lf wf (nI (R 0 0 % 4096)) pth gl gf gt lc tl w R rfl hn hT hsz a1 a2 hwf hw htl hlc W2 h15' hrow' (fun i hi => o.far hi) o.fin o.row h0 a3 hTR' hLB') rfl rfl (by exact Nat.le_of_ble_eq_true rfl) rfl h14 rfl rfl (fun v h' z => ?_)
      obtain ⟨rfl, x, rfl, hx⟩ := z
      refine am_B.run (hp := false) (sp := []) 200 rfl ?_
      refine am_B.callSN (n := 1) (as := [.int (nI x)]) rfl rfl rfl (ct_TA_transitionOf 0 _ _) rfl rfl (by exact Nat.le_of_ble_eq_true rfl) rfl rfl rfl (fun v h' z => ?_)
      obtain ⟨rfl, rfl⟩ := z
      refine am_B.run (hp := false) (sp := []) 200 rfl ?_
      refine am_B.get rfl rfl rfl (by first | assumption | exact gs_s (by first | assumption | exact gs_s (by first | assumption | exact gs_s (by assumption) | (refine gs_n (by decide) ?_; assumption)) | (refine gs_n (by decide) ?_; first | assumption | exact gs_s (by assumption) | (refine gs_n (by decide) ?_; assumption))) | (refine gs_n (by decide) ?_; first | assumption | exact gs_s (by first | assumption | exact gs_s (by assumption) | (refine gs_n (by decide) ?_; assumption)) | (refine gs_n (by decide) ?_; first | assumption | exact gs_s (by assumption) | (refine gs_n (by decide) ?_; assumption)))) rfl rfl ?_
      refine am_B.run (hp := false) (sp := []) 200 rfl ?_
      refine am_B.ast rfl hPA' (vp_nI (show i < P by omega) hP2) rfl ?_
      rw [nI_clamp (show i < 2 ^ 31 by omega), gs_ss]
      have W3 := W.set (Or.inl (show 17 ≤ pth by omega)) (ia P (upd g i (nI x)))
      obtain ⟨h2, h3, h9, h12, h13, h14, h16⟩ := W3
      refine am_B.run (hp := false) (sp := []) 200 rfl ?_
      refine am_B.callSN (n := 1) (as := [.int (nI x)]) rfl rfl rfl (ct_TA_labelOf 0 _ _) rfl rfl (by exact Nat.le_of_ble_eq_true rfl) rfl rfl rfl (fun v h' z => ?_)
      obtain ⟨rfl, rfl⟩ := z
      rcases hx with ⟨t, k, q1, q2, q3, q4, rfl⟩ | ⟨q1, q2, rfl⟩ | ⟨t, k, q1, q2, rfl⟩
      · have t10 : t < 10 := by have := q2.1; omega
        have l6 := (htl _ q1).2
        rw [mv_tr (by decide) (by omega) (by omega) hm2, mv_lb (by decide) (by omega) (by omega) hm2, nI_prd, nI_prd]
        refine am_B.run (hp := false) (sp := []) 200 rfl ?_
        refine am_B.icmp_eq rfl rfl (fun z => absurd z (nI_neg1 (by omega))) (fun _ => ?_)
        refine am_B.run (hp := false) (sp := []) 200 rfl ?_
        rw [nI_add]
        refine am_B.icmp_eq rfl rfl (fun z => absurd z (nI_neg1 (by omega))) (fun _ => ?_)
        refine am_B.run (hp := false) (sp := []) 200 rfl ?_
        refine am_B.get rfl rfl rfl (by first | assumption | exact gs_s (by first | assumption | exact gs_s (by first | assumption | exact gs_s (by assumption) | (refine gs_n (by decide) ?_; assumption)) | (refine gs_n (by decide) ?_; first | assumption | exact gs_s (by assumption) | (refine gs_n (by decide) ?_; assumption))) | (refine gs_n (by decide) ?_; first | assumption | exact gs_s (by first | assumption | exact gs_s (by assumption) | (refine gs_n (by decide) ?_; assumption)) | (refine gs_n (by decide) ?_; first | assumption | exact gs_s (by assumption) | (refine gs_n (by decide) ?_; assumption)))) rfl rfl ?_
        refine am_B.run (hp := false) (sp := []) 200 rfl ?_
        refine am_B.callV (ci := 2) (n := 2) (as := [.int (nI (ms i)), .int (nI t)]) rfl rfl rfl (ct_MG_follower 0 _ (ms i) t ex (nI n) la gf hm2 t10 h9 h12) rfl rfl (by exact Nat.le_of_ble_eq_true rfl) rfl h9 rfl rfl (fun v h' z => ?_)
        obtain ⟨rfl, rfl⟩ := z
        rw [q2.2.2]
        refine am_B.run (hp := false) (sp := [70]) 200 rfl ?_
        exact J70 _ _ _ 0 _ (Or.inl ⟨rfl, rfl, t, q1, q2, q3, q4, rfl⟩)
      · have l6 := (htl _ q1).2
        rw [mv_tr (by decide) (by decide) (by omega) hm2, mv_lb (by decide) (by decide) (by omega) hm2, z_sub, nI_prd]
        refine am_B.run (hp := false) (sp := []) 200 rfl ?_
        refine am_B.icmp_eq rfl rfl (fun z => absurd z (nI_neg1 (by omega))) (fun _ => ?_)
        refine am_B.run (hp := false) (sp := []) 200 rfl ?_
        rw [nI_add]
        refine am_B.icmp_eq rfl rfl (fun _ => ?_) (fun z => absurd rfl z)
        exact J70 _ _ _ _ _ (Or.inr (Or.inl ⟨rfl, rfl, rfl, q1, q2, rfl⟩))
      · have t10 : t < 10 := by have := q1.1; omega
        obtain ⟨c, c1, c2⟩ := o.wgt t q1.1
        rw [mv_tr (by decide) (by omega) (by decide) hm2, mv_lb (by decide) (by omega) (by decide) hm2, nI_prd, z_sub]
        refine am_B.run (hp := false) (sp := []) 200 rfl ?_
        refine am_B.icmp_eq rfl rfl (fun _ => ?_) (fun z => absurd rfl z)
        refine am_B.run (hp := false) (sp := []) 200 rfl ?_
        refine am_B.icmp_eq rfl rfl (fun z => absurd z (nI_neg1 (by omega))) (fun _ => ?_)
        refine am_B.run (hp := false) (sp := []) 200 rfl ?_
        refine am_B.get rfl rfl rfl (by first | assumption | exact gs_s (by first | assumption | exact gs_s (by first | assumption | exact gs_s (by assumption) | (refine gs_n (by decide) ?_; assumption)) | (refine gs_n (by decide) ?_; first | assumption | exact gs_s (by assumption) | (refine gs_n (by decide) ?_; assumption))) | (refine gs_n (by decide) ?_; first | assumption | exact gs_s (by first | assumption | exact gs_s (by assumption) | (refine gs_n (by decide) ?_; assumption)) | (refine gs_n (by decide) ?_; first | assumption | exact gs_s (by assumption) | (refine gs_n (by decide) ?_; assumption)))) rfl rfl ?_
        refine am_B.run (hp := false) (sp := []) 200 rfl ?_
        refine am_B.callV (ci := 2) (n := 2) (as := [.int (nI (ms i)), .int (nI t)]) rfl rfl rfl (ct_MG_follower 0 _ (ms i) t ex (nI n) la gf hm2 t10 h9 h12) rfl rfl (by exact Nat.le_of_ble_eq_true rfl) rfl h9 rfl rfl (fun v h' z => ?_)
        obtain ⟨rfl, rfl⟩ := z
        rw [q1.2.2]
        refine am_B.run (hp := false) (sp := [70]) 200 rfl ?_
        exact J70 _ _ _ c _ (Or.inr (Or.inr ⟨rfl, t, q1, c2, c1, q2, rfl⟩))
  refine am_B.run (hp := false) (sp := [7]) 200 rfl ?_
  have e := L (R 0 0 % 4096) 0 0 0 g (fun _ => 0) (fun _ => 0) none none (by omega) rfl rfl ⟨rfl, rfl, fun j hj => ⟨Nat.zero_le _, hn0, hf, by show R 0 0 % 4096 + j = _; omega⟩, fun j hj => absurd hj (by omega)⟩
  rw [gs_id hPA] at e
  exact e
