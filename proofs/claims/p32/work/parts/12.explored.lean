/-- an explored graph -/
def gOK (T : Nat) (sz la : Int32) (ge gf : Nat → Int32) : Prop := (sz = -1 ∧ la = -1) ∨ ∃ n, 1 ≤ n ∧ n ≤ 200 ∧ sz = nI n ∧ (∀ m, m < n → ∃ e, ge m = nI e ∧ rowOK T n e gf m) ∧ (∀ k, 0 < k → k < n → ∃ m, m < k ∧ ∃ t, t < T ∧ gf (m * 10 + t) = nI k) ∧ (la = -1 ∨ ∃ j, j < n ∧ la = nI j)
def exPost (h : am_H) (T : Nat) : Option Value → am_H → Prop := fun v h' => v = none ∧ ∃ sz la gc ge gf, h' = n4 h (c_MG (nI 1) sz la) (ia 200 gc) (ia 200 ge) (ia 2000 gf) ∧ gOK T sz la ge gf
set_option maxRecDepth 100000 in
set_option maxHeartbeats 4000000 in
theorem ct_MG_explored (f : Nat) (h : am_H) (sz la : Int32) (h9 : h[9]? = some (c_MG (nI 1) sz la)) : am_Ct am_G0 m_MG_explore f 0 0 [.ref 9] h (fun v h' => v = none ∧ h' = h) := by
  refine am_Ct.of (E := E_MG_explore) e_MG_explore (by decide) (Nat.le_of_ble_eq_true rfl) ?_
  refine am_B.run (hp := false) (sp := []) 200 rfl ?_
  refine am_B.get rfl rfl rfl (by first | assumption | exact gs_s (by first | assumption | exact gs_s (by first | assumption | exact gs_s (by assumption) | (refine gs_n (by decide) ?_; assumption)) | (refine gs_n (by decide) ?_; first | assumption | exact gs_s (by assumption) | (refine gs_n (by decide) ?_; assumption))) | (refine gs_n (by decide) ?_; first | assumption | exact gs_s (by first | assumption | exact gs_s (by assumption) | (refine gs_n (by decide) ?_; assumption)) | (refine gs_n (by decide) ?_; first | assumption | exact gs_s (by assumption) | (refine gs_n (by decide) ?_; assumption)))) rfl rfl ?_
  refine am_B.run (hp := false) (sp := []) 200 rfl ?_
  refine am_B.if_eq rfl rfl (fun z => absurd z (by decide)) (fun _ => ?_)
  refine am_B.run (hp := false) (sp := []) 200 rfl ?_
  exact am_B.vret rfl rfl rfl ⟨rfl, rfl⟩
set_option maxRecDepth 100000 in
set_option maxHeartbeats 4000000 in
theorem ct_MG_explore (h : am_H) (P T : Nat) (sz0 la0 : Int32) (gi go gft glt gc0 ge0 gf0 : Nat → Int32) (hl : 12 < h.length) (hP : P ≤ 8) (hT : T ≤ 10) (h2 : h[2]? = some (c_NT (nI P) (nI T))) (h5 : h[5]? = some (ia 10 gi)) (h6 : h[6]? = some (ia 10 go)) (h7 : h[7]? = some (ia 8 gft)) (h8 : h[8]? = some (ia 8 glt))
    (h9 : h[9]? = some (c_MG 0 sz0 la0)) (h10 : h[10]? = some (ia 200 gc0)) (h11 : h[11]? = some (ia 200 ge0)) (h12 : h[12]? = some (ia 2000 gf0)) : am_Ct am_G0 m_MG_explore 3 0 0 [.ref 9] h (exPost h T) := by
  refine am_Ct.of (E := E_MG_explore) e_MG_explore (by decide) (Nat.le_of_ble_eq_true rfl) ?_
  have T80 : ∀ q s gc ge gf, 1 ≤ s → s ≤ 200 → s ≤ q → (∀ m, m < s → ∃ e, ge m = nI e ∧ rowOK T s e gf m) → (∀ k, 0 < k → k < s → ∃ m, m < k ∧ ∃ t, t < T ∧ gf (m * 10 + t) = nI k) →
      (am_B E_MG_explore (am_rm 3 0 0) (am_ZM E_MG_explore 0 0 (exPost h T)) 80 [some (.ref 9), some (.int (nI q))] [] (n4 h (c_MG (nI 1) (nI s) (-1)) (ia 200 gc) (ia 200 ge) (ia 2000 gf)) 0 0 → am_B E_MG_explore (am_rm 3 0 0) (am_ZM E_MG_explore 0 0 (exPost h T)) 45 [some (.ref 9), some (.int (nI q))] [] (n4 h (c_MG (nI 1) (nI s) (-1)) (ia 200 gc) (ia 200 ge) (ia 2000 gf)) 0 0) →
      am_B E_MG_explore (am_rm 3 0 0) (am_ZM E_MG_explore 0 0 (exPost h T)) 45 [some (.ref 9), some (.int (nI q))] [] (n4 h (c_MG (nI 1) (nI s) (-1)) (ia 200 gc) (ia 200 ge) (ia 2000 gf)) 0 0 := by
    intro q s gc ge gf s1 s2 s3 i2 i3 K
    refine K ?_
    have g9 : (n4 h (c_MG (nI 1) (nI s) (-1)) (ia 200 gc) (ia 200 ge) (ia 2000 gf))[9]? = some (c_MG (nI 1) (nI s) (-1)) := n4_9 hl
    have g2 : (n4 h (c_MG (nI 1) (nI s) (-1)) (ia 200 gc) (ia 200 ge) (ia 2000 gf))[2]? = some (c_NT (nI P) (nI T)) := (n4_o (by decide) (by decide) (by decide) (by decide)).trans h2
    have g8 : (n4 h (c_MG (nI 1) (nI s) (-1)) (ia 200 gc) (ia 200 ge) (ia 2000 gf))[8]? = some (ia 8 glt) := (n4_o (by decide) (by decide) (by decide) (by decide)).trans h8
    refine am_B.run (hp := false) (sp := []) 200 rfl ?_
    refine am_B.get rfl rfl rfl (by first | assumption | exact gs_s (by first | assumption | exact gs_s (by first | assumption | exact gs_s (by assumption) | (refine gs_n (by decide) ?_; assumption)) | (refine gs_n (by decide) ?_; first | assumption | exact gs_s (by assumption) | (refine gs_n (by decide) ?_; assumption))) | (refine gs_n (by decide) ?_; first | assumption | exact gs_s (by first | assumption | exact gs_s (by assumption) | (refine gs_n (by decide) ?_; assumption)) | (refine gs_n (by decide) ?_; first | assumption | exact gs_s (by assumption) | (refine gs_n (by decide) ?_; assumption)))) rfl rfl ?_
    refine am_B.run (hp := false) (sp := []) 200 rfl ?_
    refine am_B.get rfl rfl rfl (by first | assumption | exact gs_s (by first | assumption | exact gs_s (by first | assumption | exact gs_s (by assumption) | (refine gs_n (by decide) ?_; assumption)) | (refine gs_n (by decide) ?_; first | assumption | exact gs_s (by assumption) | (refine gs_n (by decide) ?_; assumption))) | (refine gs_n (by decide) ?_; first | assumption | exact gs_s (by first | assumption | exact gs_s (by assumption) | (refine gs_n (by decide) ?_; assumption)) | (refine gs_n (by decide) ?_; first | assumption | exact gs_s (by assumption) | (refine gs_n (by decide) ?_; assumption)))) rfl rfl ?_
    refine am_B.run (hp := false) (sp := []) 200 rfl ?_
    refine am_B.get rfl rfl rfl (by first | assumption | exact gs_s (by first | assumption | exact gs_s (by first | assumption | exact gs_s (by assumption) | (refine gs_n (by decide) ?_; assumption)) | (refine gs_n (by decide) ?_; first | assumption | exact gs_s (by assumption) | (refine gs_n (by decide) ?_; assumption))) | (refine gs_n (by decide) ?_; first | assumption | exact gs_s (by first | assumption | exact gs_s (by assumption) | (refine gs_n (by decide) ?_; assumption)) | (refine gs_n (by decide) ?_; first | assumption | exact gs_s (by assumption) | (refine gs_n (by decide) ?_; assumption)))) rfl rfl ?_
    refine am_B.run (hp := false) (sp := []) 200 rfl ?_
    refine am_B.callV (ci := 1) (n := 1) (as := [.ref 8]) rfl rfl rfl (ct_NT_codeOf 0 _ P 8 (nI T) glt hP g2 g8) rfl rfl (by exact Nat.le_of_ble_eq_true rfl) rfl g2 rfl rfl (fun v h' z => ?_)
    obtain ⟨rfl, r, rfl⟩ := z
    refine am_B.run (hp := false) (sp := []) 200 rfl ?_
    refine am_B.callV (ci := 2) (n := 1) (as := [.int r]) rfl rfl rfl (ct_MG_numberOf _ s (nI 1) (-1) r gc s2 g9 (n4_10 hl)) rfl rfl (by exact Nat.le_of_ble_eq_true rfl) rfl g9 rfl rfl (fun v h' z => ?_)
    obtain ⟨rfl, x, rfl, hx⟩ := z
    refine am_B.run (hp := false) (sp := []) 200 rfl ?_
    refine am_B.put rfl rfl rfl (by first | assumption | exact gs_s (by first | assumption | exact gs_s (by first | assumption | exact gs_s (by assumption) | (refine gs_n (by decide) ?_; assumption)) | (refine gs_n (by decide) ?_; first | assumption | exact gs_s (by assumption) | (refine gs_n (by decide) ?_; assumption))) | (refine gs_n (by decide) ?_; first | assumption | exact gs_s (by first | assumption | exact gs_s (by assumption) | (refine gs_n (by decide) ?_; assumption)) | (refine gs_n (by decide) ?_; first | assumption | exact gs_s (by assumption) | (refine gs_n (by decide) ?_; assumption)))) rfl (Nat.le_of_ble_eq_true rfl) rfl (fun q => by cases q) ?_
    rw [n4_s9]
    refine am_B.run (hp := false) (sp := []) 200 rfl ?_
    exact am_B.vret rfl rfl rfl ⟨rfl, nI s, x, gc, ge, gf, rfl, Or.inr ⟨s, s1, s2, rfl, i2, i3, hx⟩⟩
  have L : ∀ d q s gc ge gf, q + d = 200 → 1 ≤ s → s ≤ 200 → q ≤ s → (∀ m, m < q → ∃ e, ge m = nI e ∧ rowOK T s e gf m) → (∀ k, 0 < k → k < s → ∃ m, m < k ∧ m < q ∧ ∃ t, t < T ∧ gf (m * 10 + t) = nI k) →
      am_B E_MG_explore (am_rm 3 0 0) (am_ZM E_MG_explore 0 0 (exPost h T)) 45 [some (.ref 9), some (.int (nI q))] [] (n4 h (c_MG (nI 1) (nI s) (-1)) (ia 200 gc) (ia 200 ge) (ia 2000 gf)) 0 0 := by
    intro d
    induction d with
    | zero =>
      intro q s gc ge gf hq s1 s2 i1 i2 i3
      have hqs : q = s := by omega
      refine T80 q s gc ge gf s1 s2 (by omega) (fun m hm => i2 m (by omega)) (fun k k1 k2 => ?_) ?_
      · obtain ⟨m, m1, -, m2⟩ := i3 k k1 k2
        exact ⟨m, m1, m2⟩
      · intro K
        refine am_B.run (hp := false) (sp := []) 200 rfl ?_
        exact am_B.icmp_ge rfl rfl (fun _ => K) (fun z => absurd (nI_le (by omega) (by omega)) z)
    | succ d ih =>
      intro q s gc ge gf hq s1 s2 i1 i2 i3
      by_cases hqs : q = s
      · refine T80 q s gc ge gf s1 s2 (by omega) (fun m hm => i2 m (by omega)) (fun k k1 k2 => ?_) ?_
        · obtain ⟨m, m1, -, m2⟩ := i3 k k1 k2
          exact ⟨m, m1, m2⟩
        · intro K
          have g9 : (n4 h (c_MG (nI 1) (nI s) (-1)) (ia 200 gc) (ia 200 ge) (ia 2000 gf))[9]? = some (c_MG (nI 1) (nI s) (-1)) := n4_9 hl
          refine am_B.run (hp := false) (sp := []) 200 rfl ?_
          refine am_B.icmp_ge rfl rfl (fun z => absurd z (nI_ge (by omega) (by omega))) (fun _ => ?_)
          refine am_B.run (hp := false) (sp := []) 200 rfl ?_
          refine am_B.get rfl rfl rfl (by first | assumption | exact gs_s (by first | assumption | exact gs_s (by first | assumption | exact gs_s (by assumption) | (refine gs_n (by decide) ?_; assumption)) | (refine gs_n (by decide) ?_; first | assumption | exact gs_s (by assumption) | (refine gs_n (by decide) ?_; assumption))) | (refine gs_n (by decide) ?_; first | assumption | exact gs_s (by first | assumption | exact gs_s (by assumption) | (refine gs_n (by decide) ?_; assumption)) | (refine gs_n (by decide) ?_; first | assumption | exact gs_s (by assumption) | (refine gs_n (by decide) ?_; assumption)))) rfl rfl ?_
          refine am_B.run (hp := false) (sp := []) 200 rfl ?_
          exact am_B.icmp_ge rfl rfl (fun _ => K) (fun z => absurd (nI_le (by omega) (by omega)) z)
      · have g9 : (n4 h (c_MG (nI 1) (nI s) (-1)) (ia 200 gc) (ia 200 ge) (ia 2000 gf))[9]? = some (c_MG (nI 1) (nI s) (-1)) := n4_9 hl
        refine am_B.run (hp := false) (sp := []) 200 rfl ?_
        refine am_B.icmp_ge rfl rfl (fun z => absurd z (nI_ge (by omega) (by omega))) (fun _ => ?_)
        refine am_B.run (hp := false) (sp := []) 200 rfl ?_
        refine am_B.get rfl rfl rfl (by first | assumption | exact gs_s (by first | assumption | exact gs_s (by first | assumption | exact gs_s (by assumption) | (refine gs_n (by decide) ?_; assumption)) | (refine gs_n (by decide) ?_; first | assumption | exact gs_s (by assumption) | (refine gs_n (by decide) ?_; assumption))) | (refine gs_n (by decide) ?_; first | assumption | exact gs_s (by first | assumption | exact gs_s (by assumption) | (refine gs_n (by decide) ?_; assumption)) | (refine gs_n (by decide) ?_; first | assumption | exact gs_s (by assumption) | (refine gs_n (by decide) ?_; assumption)))) rfl rfl ?_
        refine am_B.run (hp := false) (sp := []) 200 rfl ?_
        refine am_B.icmp_ge rfl rfl (fun z => absurd z (nI_ge (by omega) (by omega))) (fun _ => ?_)
        refine am_B.run (hp := false) (sp := []) 200 rfl ?_
        refine am_B.callV (ci := 2) (n := 1) (as := [.int (nI q)]) rfl rfl rfl (ct_MG_followAll _ P T q s (nI 1) (-1) gi go gc ge gf (by unfold n4; simp only [List.length_set]; exact hl) hP hT ((n4_o (by decide) (by decide) (by decide) (by decide)).trans h2) ((n4_o (by decide) (by decide) (by decide) (by decide)).trans h5) ((n4_o (by decide) (by decide) (by decide) (by decide)).trans h6) g9 (n4_10 hl) (n4_11 hl) (n4_12 hl) (by omega) s2) rfl rfl (by exact Nat.le_of_ble_eq_true rfl) rfl g9 rfl rfl (fun v h' z => ?_)
        obtain ⟨r, s', gc', ge', gf', rfl, rfl, j1, j2, j3⟩ := z
        rw [n4_n4]
        refine am_B.run (hp := false) (sp := []) 200 rfl ?_
        rcases j3 with rfl | ⟨rfl, j3, j4, ⟨e, j5, j6⟩, j7⟩
        · refine am_B.if_ne rfl rfl (fun z => absurd rfl z) (fun _ => ?_)
          have g9' : (n4 h (c_MG (nI 1) (nI s') (-1)) (ia 200 gc') (ia 200 ge') (ia 2000 gf'))[9]? = some (c_MG (nI 1) (nI s') (-1)) := n4_9 hl
          refine am_B.run (hp := false) (sp := []) 200 rfl ?_
          refine am_B.put rfl rfl rfl (by first | assumption | exact gs_s (by first | assumption | exact gs_s (by first | assumption | exact gs_s (by assumption) | (refine gs_n (by decide) ?_; assumption)) | (refine gs_n (by decide) ?_; first | assumption | exact gs_s (by assumption) | (refine gs_n (by decide) ?_; assumption))) | (refine gs_n (by decide) ?_; first | assumption | exact gs_s (by first | assumption | exact gs_s (by assumption) | (refine gs_n (by decide) ?_; assumption)) | (refine gs_n (by decide) ?_; first | assumption | exact gs_s (by assumption) | (refine gs_n (by decide) ?_; assumption)))) rfl (Nat.le_of_ble_eq_true rfl) rfl (fun q => by cases q) ?_
          rw [n4_s9]
          refine am_B.run (hp := false) (sp := []) 200 rfl ?_
          exact am_B.vret rfl rfl rfl ⟨rfl, -1, -1, gc', ge', gf', rfl, Or.inl ⟨rfl, rfl⟩⟩
        · refine am_B.if_ne rfl rfl (fun _ => ?_) (fun z => absurd z (by decide))
          refine am_B.run (hp := false) (sp := [45]) 200 rfl ?_
          rw [nI_add]
          refine ih (q + 1) s' gc' ge' gf' (by omega) (by omega) j2 (by omega) (fun m hm => ?_) (fun k k1 k2 => ?_)
          · by_cases z : m = q
            · subst z; exact ⟨e, j5, j6⟩
            · obtain ⟨e2, z1, z2⟩ := i2 m (by omega)
              refine ⟨e2, by rw [j3 m z]; exact z1, (z2.mono j1).1, fun t ht => ?_⟩
              rw [j4 (m * 10 + t) (by omega)]
              exact (z2.mono j1).2 t ht
          · rcases Nat.lt_or_ge k s with z | z
            · obtain ⟨m, m1, m2, t, t1, t2⟩ := i3 k k1 z
              exact ⟨m, m1, by omega, t, t1, by rw [j4 (m * 10 + t) (by omega)]; exact t2⟩
            · obtain ⟨t, t1, t2⟩ := j7 k z k2
              exact ⟨q, by omega, by omega, t, t1, t2⟩
  refine am_B.run (hp := false) (sp := []) 200 rfl ?_
  refine am_B.get rfl rfl rfl (by first | assumption | exact gs_s (by first | assumption | exact gs_s (by first | assumption | exact gs_s (by assumption) | (refine gs_n (by decide) ?_; assumption)) | (refine gs_n (by decide) ?_; first | assumption | exact gs_s (by assumption) | (refine gs_n (by decide) ?_; assumption))) | (refine gs_n (by decide) ?_; first | assumption | exact gs_s (by first | assumption | exact gs_s (by assumption) | (refine gs_n (by decide) ?_; assumption)) | (refine gs_n (by decide) ?_; first | assumption | exact gs_s (by assumption) | (refine gs_n (by decide) ?_; assumption)))) rfl rfl ?_
  refine am_B.run (hp := false) (sp := []) 200 rfl ?_
  refine am_B.if_eq rfl rfl (fun _ => ?_) (fun z => absurd rfl z)
  refine am_B.run (hp := false) (sp := []) 200 rfl ?_
  refine am_B.put rfl rfl rfl (by first | assumption | exact gs_s (by first | assumption | exact gs_s (by first | assumption | exact gs_s (by assumption) | (refine gs_n (by decide) ?_; assumption)) | (refine gs_n (by decide) ?_; first | assumption | exact gs_s (by assumption) | (refine gs_n (by decide) ?_; assumption))) | (refine gs_n (by decide) ?_; first | assumption | exact gs_s (by first | assumption | exact gs_s (by assumption) | (refine gs_n (by decide) ?_; assumption)) | (refine gs_n (by decide) ?_; first | assumption | exact gs_s (by assumption) | (refine gs_n (by decide) ?_; assumption)))) rfl (Nat.le_of_ble_eq_true rfl) rfl (fun q => by cases q) ?_
  refine am_B.run (hp := false) (sp := []) 200 rfl ?_
  refine am_B.put rfl rfl rfl (by first | assumption | exact gs_s (by first | assumption | exact gs_s (by first | assumption | exact gs_s (by assumption) | (refine gs_n (by decide) ?_; assumption)) | (refine gs_n (by decide) ?_; first | assumption | exact gs_s (by assumption) | (refine gs_n (by decide) ?_; assumption))) | (refine gs_n (by decide) ?_; first | assumption | exact gs_s (by first | assumption | exact gs_s (by assumption) | (refine gs_n (by decide) ?_; assumption)) | (refine gs_n (by decide) ?_; first | assumption | exact gs_s (by assumption) | (refine gs_n (by decide) ?_; assumption)))) rfl (Nat.le_of_ble_eq_true rfl) rfl (fun q => by cases q) ?_
  rw [gs_ss]
  refine am_B.run (hp := false) (sp := []) 200 rfl ?_
  refine am_B.get rfl rfl rfl (by first | assumption | exact gs_s (by first | assumption | exact gs_s (by first | assumption | exact gs_s (by assumption) | (refine gs_n (by decide) ?_; assumption)) | (refine gs_n (by decide) ?_; first | assumption | exact gs_s (by assumption) | (refine gs_n (by decide) ?_; assumption))) | (refine gs_n (by decide) ?_; first | assumption | exact gs_s (by first | assumption | exact gs_s (by assumption) | (refine gs_n (by decide) ?_; assumption)) | (refine gs_n (by decide) ?_; first | assumption | exact gs_s (by assumption) | (refine gs_n (by decide) ?_; assumption)))) rfl rfl ?_
  refine am_B.run (hp := false) (sp := []) 200 rfl ?_
  refine am_B.get rfl rfl rfl (by first | assumption | exact gs_s (by first | assumption | exact gs_s (by first | assumption | exact gs_s (by assumption) | (refine gs_n (by decide) ?_; assumption)) | (refine gs_n (by decide) ?_; first | assumption | exact gs_s (by assumption) | (refine gs_n (by decide) ?_; assumption))) | (refine gs_n (by decide) ?_; first | assumption | exact gs_s (by first | assumption | exact gs_s (by assumption) | (refine gs_n (by decide) ?_; assumption)) | (refine gs_n (by decide) ?_; first | assumption | exact gs_s (by assumption) | (refine gs_n (by decide) ?_; assumption)))) rfl rfl ?_
  refine am_B.run (hp := false) (sp := []) 200 rfl ?_
  refine am_B.get rfl rfl rfl (by first | assumption | exact gs_s (by first | assumption | exact gs_s (by first | assumption | exact gs_s (by assumption) | (refine gs_n (by decide) ?_; assumption)) | (refine gs_n (by decide) ?_; first | assumption | exact gs_s (by assumption) | (refine gs_n (by decide) ?_; assumption))) | (refine gs_n (by decide) ?_; first | assumption | exact gs_s (by first | assumption | exact gs_s (by assumption) | (refine gs_n (by decide) ?_; assumption)) | (refine gs_n (by decide) ?_; first | assumption | exact gs_s (by assumption) | (refine gs_n (by decide) ?_; assumption)))) rfl rfl ?_
  refine am_B.run (hp := false) (sp := []) 200 rfl ?_
  refine am_B.get rfl rfl rfl (by first | assumption | exact gs_s (by first | assumption | exact gs_s (by first | assumption | exact gs_s (by assumption) | (refine gs_n (by decide) ?_; assumption)) | (refine gs_n (by decide) ?_; first | assumption | exact gs_s (by assumption) | (refine gs_n (by decide) ?_; assumption))) | (refine gs_n (by decide) ?_; first | assumption | exact gs_s (by first | assumption | exact gs_s (by assumption) | (refine gs_n (by decide) ?_; assumption)) | (refine gs_n (by decide) ?_; first | assumption | exact gs_s (by assumption) | (refine gs_n (by decide) ?_; assumption)))) rfl rfl ?_
  refine am_B.run (hp := false) (sp := []) 200 rfl ?_
  have g2 : (h.set 9 (c_MG (nI 1) sz0 (-1)))[2]? = some (c_NT (nI P) (nI T)) := gs_n (by decide) h2
  have g7 : (h.set 9 (c_MG (nI 1) sz0 (-1)))[7]? = some (ia 8 gft) := gs_n (by decide) h7
  have g10 : (h.set 9 (c_MG (nI 1) sz0 (-1)))[10]? = some (ia 200 gc0) := gs_n (by decide) h10
  refine am_B.callV (ci := 1) (n := 1) (as := [.ref 7]) rfl rfl rfl (ct_NT_codeOf 0 _ P 7 (nI T) gft hP g2 g7) rfl rfl (by exact Nat.le_of_ble_eq_true rfl) rfl g2 rfl rfl (fun v h' z => ?_)
  obtain ⟨rfl, r, rfl⟩ := z
  refine am_B.run (hp := false) (sp := []) 200 rfl ?_
  refine am_B.ast rfl g10 (vp_n (show 0 < 200 by decide) rfl) rfl ?_
  refine am_B.run (hp := false) (sp := []) 200 rfl ?_
  refine am_B.put rfl rfl rfl (gs_n (by decide) (gs_s h9)) rfl (Nat.le_of_ble_eq_true rfl) rfl (fun q => by cases q) ?_
  have e0 : ((h.set 9 (c_MG (nI 1) sz0 (-1))).set 10 (ia 200 (upd gc0 (nI 0).toNatClampNeg r))).set 9 (c_MG (nI 1) (nI 1) (-1)) = n4 h (c_MG (nI 1) (nI 1) (-1)) (ia 200 (upd gc0 (nI 0).toNatClampNeg r)) (ia 200 ge0) (ia 2000 gf0) := by
    unfold n4
    rw [List.set_comm _ _ (by decide : (10 : Nat) ≠ 9), List.set_set]
    rw [gs_id (a := 11) (gs_n (by decide) (gs_n (by decide) h11)), gs_id (a := 12) (gs_n (by decide) (gs_n (by decide) h12))]
  show am_B _ _ _ _ _ _ (((h.set 9 (c_MG (nI 1) sz0 (-1))).set 10 (ia 200 (upd gc0 (nI 0).toNatClampNeg r))).set 9 (c_MG (nI 1) (nI 1) (-1))) _ _
  rw [e0]
  refine am_B.run (hp := false) (sp := [45]) 200 rfl ?_
  exact L 200 0 1 _ _ _ (by omega) (Nat.le_refl _) (by decide) (by decide) (fun m hm => absurd hm (by omega)) (fun k k1 k2 => absurd k1 (by omega))
