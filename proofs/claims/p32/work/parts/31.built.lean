/-! THE LAW BUILDS A NET: its places, and the whole -/
set_option maxRecDepth 100000 in
set_option maxHeartbeats 4000000 in
theorem bd_places (L : Nat) (xs : Nat → Int32) (sc : am_C) (hsc : sc = .inl (99, L, .inl xs)) (hL : L < 2 ^ 31) (ext : am_H) (P T : Nat) (hP0 : 0 < P) (hP : P ≤ 4) (hT : T ≤ 6) (cnt rws : Nat → Int32) (hc0 : cnt 0 = nI P) (hc1 : cnt 1 = nI T) :
    ∀ d p, p + d = P → ∀ gft glt tok (l7 l8 : Option Value), (∀ i, p ≤ i → gft i = 0) → (∀ i, p ≤ i → glt i = 0) →
      bB (bPost sc ext) 32 [some (.ref 1), some (.ref 0), some (.int (nI 0)), some (.ref 53), some (.ref 54), some (.ref 56), some (.int (nI p)), l7, l8] [] (bH sc p 0 z0 z0 z0 z0 gft glt cnt rws tok ext) := by
  have hg0 : ∀ {nb nt P T : Nat} {gl gco gi go gft glt gb sz tm cnt rws tok : Nat → Int32} {LB : Nat → Nat → Int32} {trc : Nat → Option Nat} {ext : am_H}, (XW sc nb nt P T gl gco gi go gft glt gb sz tm LB cnt rws trc tok ++ ext)[0]? = some (.inl (99, L, .inl xs)) := by
    intros; rw [xw_g0, hsc]
  intro d
  induction d with
  | zero =>
    intro p hp gft glt tok l7 l8 e1 e2
    obtain rfl : p = P := by omega
    refine am_B.run (hp := false) (sp := []) 200 rfl ?_
    refine am_B.ald rfl xw_g53 (vp_n (show 0 < 2 by decide) rfl) rfl ?_
    rw [nI_clamp (show 0 < 2 ^ 31 by decide), hc0]
    refine am_B.icmp_ge rfl rfl (fun _ => ?_) (fun z => absurd (nI_le (Nat.le_refl _) (by omega)) z)
    refine am_B.run (hp := false) (sp := [205]) 200 rfl ?_
    exact bd_trans L xs sc hsc hL ext p T hP0 hP hT gft glt cnt tok hc0 hc1 T 0 (by omega) z0 z0 z0 z0 rws _ _ (fun _ _ => rfl) (fun _ _ => rfl) (fun t' h => absurd h (by omega))
  | succ d ih =>
    intro p hp gft glt tok l7 l8 e1 e2
    have hp4 : p < 4 := by omega
    have J160 : ∀ y v w : Nat, v ≤ 3 → w ≤ 3 → ∀ (tok : Nat → Int32) (l8 : Option Value), tok p = nI v →
        bB (bPost sc ext) 160 [some (.ref 1), some (.ref 0), some (.int (nI 0)), some (.ref 53), some (.ref 54), some (.ref 56), some (.int (nI p)), some (.int (nI y)), l8] [.int (nI w), .int (nI 8 + nI p), .ref 56] (bH sc (p + 1) 0 z0 z0 z0 z0 gft glt cnt rws tok ext) := by
      intro y v w hv hw tok l8 f1
      rw [nI_add]
      refine am_B.ast rfl xw_g56 (vp_n (show 8 + p < 16 by omega) rfl) rfl ?_
      rw [nI_clamp (show 8 + p < 2 ^ 31 by omega), xw_s56]
      refine am_B.run (hp := false) (sp := []) 200 rfl ?_
      refine am_B.ald rfl xw_g56 (vp_n (show p < 16 by omega) rfl) rfl ?_
      rw [nI_clamp (show p < 2 ^ 31 by omega), upd_n (show p ≠ 8 + p by omega), f1]
      refine am_B.run (hp := false) (sp := []) 200 rfl ?_
      refine am_B.callV (ci := 0) (n := 3) (as := [.int (nI p), .int (nI v), .int (nI 0)]) rfl rfl rfl (ct_TA_setTokens _ p (p + 1) 0 7 v (nI 0) (nI 0) (nI 0) gft (by omega) (by omega) hv (Or.inl ⟨rfl, rfl⟩) xw_g1 xw_g2 xw_g7 xw_calm) rfl rfl (by exact Nat.le_of_ble_eq_true rfl) rfl xw_g1 rfl rfl (fun v h' z => ?_)
      obtain ⟨rfl, rfl⟩ := z
      rw [xw_s7, e1 p (Nat.le_refl _)]
      refine am_B.if_ne rfl rfl (fun z => absurd rfl z) (fun _ => ?_)
      refine am_B.run (hp := false) (sp := []) 200 rfl ?_
      rw [nI_add]
      refine am_B.ald rfl xw_g56 (vp_n (show 8 + p < 16 by omega) rfl) rfl ?_
      rw [nI_clamp (show 8 + p < 2 ^ 31 by omega), upd_s]
      refine am_B.run (hp := false) (sp := []) 200 rfl ?_
      refine am_B.callV (ci := 0) (n := 3) (as := [.int (nI p), .int (nI w), .int (nI 1)]) rfl rfl rfl (ct_TA_setTokens _ p (p + 1) 1 8 w (nI 0) (nI 0) (nI 0) glt (by omega) (by omega) hw (Or.inr ⟨rfl, rfl⟩) xw_g1 xw_g2 xw_g8 xw_calm) rfl rfl (by exact Nat.le_of_ble_eq_true rfl) rfl xw_g1 rfl rfl (fun v h' z => ?_)
      obtain ⟨rfl, rfl⟩ := z
      rw [xw_s8, e2 p (Nat.le_refl _)]
      refine am_B.if_eq rfl rfl (fun _ => ?_) (fun z => absurd rfl z)
      refine am_B.run (hp := false) (sp := [32]) 200 rfl ?_
      rw [nI_add]
      exact ih (p + 1) (by omega) _ _ _ _ _ (fun i hi => by rw [upd_n (by omega)]; exact e1 i (by omega)) (fun i hi => by rw [upd_n (by omega)]; exact e2 i (by omega))
    have J112 : ∀ y v : Nat, v ≤ 3 → ∀ (l8 : Option Value),
        bB (bPost sc ext) 112 [some (.ref 1), some (.ref 0), some (.int (nI 0)), some (.ref 53), some (.ref 54), some (.ref 56), some (.int (nI p)), some (.int (nI y)), l8] [.int (nI v), .int (nI p), .ref 56] (bH sc (p + 1) 0 z0 z0 z0 z0 gft glt cnt rws tok ext) := by
      intro y v hv l8
      refine am_B.ast rfl xw_g56 (vp_n (show p < 16 by omega) rfl) rfl ?_
      rw [nI_clamp (show p < 2 ^ 31 by omega), xw_s56]
      refine am_B.run (hp := false) (sp := []) 200 rfl ?_
      refine am_B.if_eq rfl rfl (fun _ => ?_) (fun _ => ?_)
      · refine am_B.run (hp := false) (sp := []) 200 rfl ?_
        refine am_B.callS (n := 2) (as := [.ref 0, .int (nI 0)]) rfl rfl rfl (ct_LW_cell 0 _ L 0 xs hL (by omega) hg0) rfl rfl (by exact Nat.le_of_ble_eq_true rfl) rfl rfl rfl (fun v h' z => ?_)
        obtain ⟨rfl, x, rfl⟩ := z
        refine am_B.run (hp := false) (sp := []) 200 rfl ?_
        refine am_B.callS (n := 2) (as := [.int _, .int (nI 2)]) rfl rfl rfl (ct_LW_below 0 _ _ 2 (by decide) (by decide)) rfl rfl (by exact Nat.le_of_ble_eq_true rfl) rfl rfl rfl (fun v h' z => ?_)
        obtain ⟨rfl, k5, hk5, rfl⟩ := z
        exact J160 y v k5 hv (by omega) _ _ upd_s
      · refine am_B.run (hp := false) (sp := []) 200 rfl ?_
        refine am_B.ald rfl xw_g53 (vp_n (show 0 < 2 by decide) rfl) rfl ?_
        refine am_B.run (hp := false) (sp := []) 200 rfl ?_
        refine am_B.icmp_ne rfl rfl (fun _ => ?_) (fun _ => ?_)
        · refine am_B.run (hp := false) (sp := [160]) 200 rfl ?_
          exact J160 y v 0 hv (by omega) _ _ upd_s
        · refine am_B.run (hp := false) (sp := [160]) 200 rfl ?_
          exact J160 y v 1 hv (by omega) _ _ upd_s
    have J71 : ∀ y : Nat, ∀ (l7 l8 : Option Value),
        bB (bPost sc ext) 71 [some (.ref 1), some (.ref 0), some (.int (nI 0)), some (.ref 53), some (.ref 54), some (.ref 56), some (.int (nI p)), l7, l8] [.int (nI y)] (bH sc (p + 1) 0 z0 z0 z0 z0 gft glt cnt rws tok ext) := by
      intro y l7 l8
      refine am_B.run (hp := false) (sp := []) 200 rfl ?_
      refine am_B.if_eq rfl rfl (fun _ => ?_) (fun _ => ?_)
      · refine am_B.run (hp := false) (sp := []) 200 rfl ?_
        refine am_B.callS (n := 2) (as := [.ref 0, .int (nI 0)]) rfl rfl rfl (ct_LW_cell 0 _ L 0 xs hL (by omega) hg0) rfl rfl (by exact Nat.le_of_ble_eq_true rfl) rfl rfl rfl (fun v h' z => ?_)
        obtain ⟨rfl, x, rfl⟩ := z
        refine am_B.run (hp := false) (sp := []) 200 rfl ?_
        refine am_B.callS (n := 2) (as := [.int _, .int (nI 3)]) rfl rfl rfl (ct_LW_below 0 _ _ 3 (by decide) (by decide)) rfl rfl (by exact Nat.le_of_ble_eq_true rfl) rfl rfl rfl (fun v h' z => ?_)
        obtain ⟨rfl, k5, hk5, rfl⟩ := z
        exact J112 y k5 (by omega) _
      · refine am_B.run (hp := false) (sp := []) 200 rfl ?_
        refine am_B.if_ne rfl rfl (fun _ => ?_) (fun _ => ?_)
        · refine am_B.run (hp := false) (sp := [112]) 200 rfl ?_
          exact J112 y 0 (by omega) _
        · refine am_B.run (hp := false) (sp := [112]) 200 rfl ?_
          exact J112 y 1 (by omega) _
    refine am_B.run (hp := false) (sp := []) 200 rfl ?_
    refine am_B.ald rfl xw_g53 (vp_n (show 0 < 2 by decide) rfl) rfl ?_
    rw [nI_clamp (show 0 < 2 ^ 31 by decide), hc0]
    refine am_B.icmp_ge rfl rfl (fun z => absurd z (nI_ge (by omega) (by omega))) (fun _ => ?_)
    refine am_B.run (hp := false) (sp := []) 200 rfl ?_
    refine am_B.callV (ci := 0) (n := 0) (as := []) rfl rfl rfl (ct_TA_addPlace _ p (nI 0) (nI 0) (nI 0) (by omega) xw_g1 xw_g2 xw_calm) rfl rfl (by exact Nat.le_of_ble_eq_true rfl) rfl xw_g1 rfl rfl (fun v h' z => ?_)
    obtain ⟨rfl, rfl⟩ := z
    rw [xw_s2]
    refine am_B.run (hp := false) (sp := []) 200 rfl ?_
    refine am_B.icmp_eq rfl rfl (fun _ => ?_) (fun z => absurd rfl z)
    refine am_B.run (hp := false) (sp := []) 200 rfl ?_
    refine am_B.callS (n := 2) (as := [.ref 0, .int (nI 0)]) rfl rfl rfl (ct_LW_cell 0 _ L 0 xs hL (by omega) hg0) rfl rfl (by exact Nat.le_of_ble_eq_true rfl) rfl rfl rfl (fun v h' z => ?_)
    obtain ⟨rfl, x, rfl⟩ := z
    refine am_B.run (hp := false) (sp := []) 200 rfl ?_
    refine am_B.callS (n := 2) (as := [.int _, .int (nI 3)]) rfl rfl rfl (ct_LW_below 0 _ _ 3 (by decide) (by decide)) rfl rfl (by exact Nat.le_of_ble_eq_true rfl) rfl rfl rfl (fun v h' z => ?_)
    obtain ⟨rfl, k5, hk5, rfl⟩ := z
    refine am_B.if_le rfl rfl (fun _ => ?_) (fun _ => ?_)
    · refine am_B.run (hp := false) (sp := [71]) 200 rfl ?_
      exact J71 0 _ _
    · refine am_B.run (hp := false) (sp := [71]) 200 rfl ?_
      exact J71 1 _ _
set_option maxRecDepth 100000 in
set_option maxHeartbeats 4000000 in
theorem ct_LW_build (L : Nat) (xs : Nat → Int32) (sc : am_C) (hsc : sc = .inl (99, L, .inl xs)) (hL : L < 2 ^ 31) (ext : am_H) : am_Ct am_G0 m_LW_build 3 0 0 [.ref 1, .ref 0, .int (nI 0), .ref 53, .ref 54, .ref 56] (bH sc 0 0 z0 z0 z0 z0 z0 z0 z0 z0 z0 ext) (bPost sc ext) := by
  have hg0 : ∀ {nb nt P T : Nat} {gl gco gi go gft glt gb sz tm cnt rws tok : Nat → Int32} {LB : Nat → Nat → Int32} {trc : Nat → Option Nat} {ext : am_H}, (XW sc nb nt P T gl gco gi go gft glt gb sz tm LB cnt rws trc tok ++ ext)[0]? = some (.inl (99, L, .inl xs)) := by
    intros; rw [xw_g0, hsc]
  refine am_Ct.of (E := E_LW_build) e_LW_build (by decide) (Nat.le_of_ble_eq_true rfl) ?_
  refine am_B.run (hp := false) (sp := []) 200 rfl ?_
  refine am_B.callS (n := 2) (as := [.ref 0, .int (nI 0)]) rfl rfl rfl (ct_LW_cell 0 _ L 0 xs hL (by omega) hg0) rfl rfl (by exact Nat.le_of_ble_eq_true rfl) rfl rfl rfl (fun v h' z => ?_)
  obtain ⟨rfl, x, rfl⟩ := z
  refine am_B.run (hp := false) (sp := []) 200 rfl ?_
  refine am_B.callS (n := 2) (as := [.int x, .int (nI 4)]) rfl rfl rfl (ct_LW_below 0 _ _ 4 (by decide) (by decide)) rfl rfl (by exact Nat.le_of_ble_eq_true rfl) rfl rfl rfl (fun v h' z => ?_)
  obtain ⟨rfl, k4, hk4, rfl⟩ := z
  refine am_B.run (hp := false) (sp := []) 200 rfl ?_
  rw [nI_add]
  refine am_B.ast rfl xw_g53 (vp_n (show 0 < 2 by decide) rfl) rfl ?_
  rw [nI_clamp (show 0 < 2 ^ 31 by decide), xw_s53]
  refine am_B.run (hp := false) (sp := []) 200 rfl ?_
  refine am_B.callS (n := 2) (as := [.ref 0, .int (nI 0)]) rfl rfl rfl (ct_LW_cell 0 _ L 0 xs hL (by omega) hg0) rfl rfl (by exact Nat.le_of_ble_eq_true rfl) rfl rfl rfl (fun v h' z => ?_)
  obtain ⟨rfl, x, rfl⟩ := z
  refine am_B.run (hp := false) (sp := []) 200 rfl ?_
  refine am_B.callS (n := 2) (as := [.int _, .int (nI 7)]) rfl rfl rfl (ct_LW_below 0 _ _ 7 (by decide) (by decide)) rfl rfl (by exact Nat.le_of_ble_eq_true rfl) rfl rfl rfl (fun v h' z => ?_)
  obtain ⟨rfl, k7, hk7, rfl⟩ := z
  refine am_B.ast rfl xw_g53 (vp_n (show 1 < 2 by decide) rfl) rfl ?_
  rw [nI_clamp (show 1 < 2 ^ 31 by decide), xw_s53]
  refine am_B.run (hp := false) (sp := [32]) 200 rfl ?_
  exact bd_places L xs sc hsc hL ext (1 + k4) k7 (by omega) (by omega) (by omega) _ z0 (by rw [upd_n (by decide), upd_s]) upd_s (1 + k4) 0 (by omega) z0 z0 z0 _ _ (fun _ _ => rfl) (fun _ _ => rfl)
