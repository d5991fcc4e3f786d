/-- the move that is chosen at a marking, with so many labels passed -/
def mvOK (n T sz : Nat) (gl gf : Nat → Int32) (lc tl w : Nat → Nat) (R : Nat → Nat → Nat) (pos m : Nat) (x : Nat) : Prop :=
  (∃ t k, pos < sz ∧ Ed n T gf m t k ∧ gl t = nI (tl pos) ∧ R (pos + 1) k + 1 = R pos m ∧ x = mvN 0 (t + 1) (tl pos + 1) m) ∨
  (pos < sz ∧ R (pos + 1) m + (lc (tl pos) * 4096 + 1) = R pos m ∧ x = mvN 1 0 (tl pos + 1) m) ∨
  ∃ t k, Ed n T gf m t k ∧ R pos k + w t = R pos m ∧ x = mvN 2 (t + 1) 0 m
set_option maxRecDepth 100000 in
set_option maxHeartbeats 4000000 in
theorem ct_PF_bestMove (h : am_H) (tr q n T sz l pos m : Nat) (pc ex la tm al lf wf mf : Int32) (pth : Nat) (gl gf gt : Nat → Int32) (lc tl w : Nat → Nat) (R : Nat → Nat → Nat) (htr : tr = 28 + 3 * q) (hn : n ≤ 200) (hT : T ≤ 10) (hsz : sz ≤ 8) (hpos : pos ≤ sz) (hm : m < n) (hwf : wfF n T gf) (hw : ∀ t, t < T → w t ≤ 36865)
    (htl : ∀ i, i < sz → gt i = nI (tl i) ∧ tl i < 6) (hlc : ∀ i, i < 6 → lc i ≤ 9) (W : pfW h n T pc ex la gl gf lc) (h15 : h[15]? = some (ia 10 fun t => nI (w t))) (hrow : ∀ i, i ≤ sz → h[17 + i]? = some (ia 200 fun k => nI (R i k)))
    (hfar : ∀ i, i ≤ sz → ∀ k, k < n → R i k ≤ 1073741824) (hend : fixOK n T gf w (endB l) (R sz)) (hev : ∀ i, i < sz → rowE n T gl gf w (tl i) (lc (tl i) * 4096 + 1) (R (i + 1)) (R i))
    (h0 : 0 < R pos m) (h1 : R pos m < 1073741824) (hTR : h[tr]? = some (c_TR q (nI sz) tm al lf wf mf pth)) (hLB : h[29 + 3 * q]? = some (ia 8 gt)) :
    am_Ct am_G0 m_PF_bestMove 2 0 0 [.ref 14, .ref tr, .int (nI pos), .int (nI m)] h (fun v h' => h' = h ∧ ∃ x, v = some (.int (nI x)) ∧ mvOK n T sz gl gf lc tl w R pos m x) := by
  subst htr
  have W0 := W
  obtain ⟨h2, h3, h9, h12, h13, h14, h16⟩ := W
  have hm2 : m < 200 := by omega
  have hrp := hrow pos hpos
  refine am_Ct.of (E := E_PF_bestMove) e_PF_bestMove (by decide) (Nat.le_of_ble_eq_true rfl) ?_
  -- no label is passed
  have J137 : ∀ (l5 l6 l7 l8 : Option Value), (∃ t k, Ed n T gf m t k ∧ R pos k + w t = R pos m) → am_B E_PF_bestMove (am_rm 2 0 0) (am_ZM E_PF_bestMove 0 0 (fun v h' => h' = h ∧ ∃ x, v = some (.int (nI x)) ∧ mvOK n T sz gl gf lc tl w R pos m x)) 137 [some (.ref 14), some (.ref (28 + 3 * q)), some (.int (nI pos)), some (.int (nI m)), some (.int (nI (R pos m))), l5, l6, l7, l8] [] h 0 0 := by
    intro l5 l6 l7 l8 hx
    refine am_B.run (hp := false) (sp := []) 200 rfl ?_
    refine am_B.get rfl rfl rfl (by first | assumption | exact gs_s (by first | assumption | exact gs_s (by first | assumption | exact gs_s (by assumption) | (refine gs_n (by decide) ?_; assumption)) | (refine gs_n (by decide) ?_; first | assumption | exact gs_s (by assumption) | (refine gs_n (by decide) ?_; assumption))) | (refine gs_n (by decide) ?_; first | assumption | exact gs_s (by first | assumption | exact gs_s (by assumption) | (refine gs_n (by decide) ?_; assumption)) | (refine gs_n (by decide) ?_; first | assumption | exact gs_s (by assumption) | (refine gs_n (by decide) ?_; assumption)))) rfl rfl ?_
    refine am_B.run (hp := false) (sp := []) 200 rfl ?_
    refine am_B.ald rfl h16 (vp_n (show pos < 9 by omega) rfl) (rs_get (show pos < 9 by omega)) ?_
    refine am_B.run (hp := false) (sp := []) 200 rfl ?_
    refine am_B.callV (ci := 3) (n := 2) (as := [.ref (17 + pos), .int (nI m)]) rfl rfl rfl (ct_PF_bestModel _ (17 + pos) n T m pc ex la gl gf lc w (R pos) hn hT hm hwf hw (hfar pos hpos) W0 h15 hrp hx) rfl rfl (by exact Nat.le_of_ble_eq_true rfl) rfl h14 rfl rfl (fun v h' z => ?_)
    obtain ⟨rfl, t, k, q1, q2, rfl⟩ := z
    refine am_B.run (hp := false) (sp := []) 200 rfl ?_
    refine am_B.callSN (n := 4) (as := [.int (nI 2), .int (nI t), .int (-1), .int (nI m)]) rfl rfl rfl (ct_TA_packMove 0 _ _ _ _ _) rfl rfl (by exact Nat.le_of_ble_eq_true rfl) rfl rfl rfl (fun v h' z => ?_)
    obtain ⟨rfl, rfl⟩ := z
    rw [nI_add, m1_add, pack_eq (by decide) (by have := q1.1; omega) (by decide)]
    refine am_B.run (hp := false) (sp := []) 200 rfl ?_
    exact am_B.iret rfl rfl rfl ⟨rfl, _, rfl, Or.inr (Or.inr ⟨t, k, q1, q2, rfl⟩)⟩
  refine am_B.run (hp := false) (sp := []) 200 rfl ?_
  refine am_B.get rfl rfl rfl (by first | assumption | exact gs_s (by first | assumption | exact gs_s (by first | assumption | exact gs_s (by assumption) | (refine gs_n (by decide) ?_; assumption)) | (refine gs_n (by decide) ?_; first | assumption | exact gs_s (by assumption) | (refine gs_n (by decide) ?_; assumption))) | (refine gs_n (by decide) ?_; first | assumption | exact gs_s (by first | assumption | exact gs_s (by assumption) | (refine gs_n (by decide) ?_; assumption)) | (refine gs_n (by decide) ?_; first | assumption | exact gs_s (by assumption) | (refine gs_n (by decide) ?_; assumption)))) rfl rfl ?_
  refine am_B.run (hp := false) (sp := []) 200 rfl ?_
  refine am_B.ald rfl h16 (vp_n (show pos < 9 by omega) rfl) (rs_get (show pos < 9 by omega)) ?_
  refine am_B.run (hp := false) (sp := []) 200 rfl ?_
  refine am_B.ald rfl hrp (vp_n hm2 rfl) rfl ?_
  rw [nI_clamp (show m < 2 ^ 31 by omega)]
  refine am_B.run (hp := false) (sp := []) 200 rfl ?_
  refine am_B.get rfl rfl rfl (by first | assumption | exact gs_s (by first | assumption | exact gs_s (by first | assumption | exact gs_s (by assumption) | (refine gs_n (by decide) ?_; assumption)) | (refine gs_n (by decide) ?_; first | assumption | exact gs_s (by assumption) | (refine gs_n (by decide) ?_; assumption))) | (refine gs_n (by decide) ?_; first | assumption | exact gs_s (by first | assumption | exact gs_s (by assumption) | (refine gs_n (by decide) ?_; assumption)) | (refine gs_n (by decide) ?_; first | assumption | exact gs_s (by assumption) | (refine gs_n (by decide) ?_; assumption)))) rfl rfl ?_
  refine am_B.run (hp := false) (sp := []) 200 rfl ?_
  refine am_B.icmp_ge rfl rfl (fun z => ?_) (fun z => ?_)
  · obtain rfl : pos = sz := by
      rcases Nat.lt_or_ge pos sz with q1 | q1
      · exact absurd z (nI_ge q1 (by omega))
      · omega
    refine J137 _ _ _ _ ?_
    rcases hend.2.2.1 m hm with q1 | ⟨t, k, q1, q2⟩
    · unfold endB at q1
      split at q1 <;> omega
    · have := hend.1 m hm t k q1
      exact ⟨t, k, q1, by omega⟩
  · have hlt : pos < sz := by
      rcases Nat.lt_or_ge pos sz with q1 | q1
      · exact q1
      · exact absurd (nI_le q1 (by omega)) z
    have hlab := htl pos hlt
    have hl9 := hlc _ hlab.2
    have hrp1 := hrow (pos + 1) (by omega)
    obtain ⟨b, hb1, hb2⟩ := hev pos hlt
    refine am_B.run (hp := false) (sp := []) 200 rfl ?_
    refine am_B.get rfl rfl rfl (by first | assumption | exact gs_s (by first | assumption | exact gs_s (by first | assumption | exact gs_s (by assumption) | (refine gs_n (by decide) ?_; assumption)) | (refine gs_n (by decide) ?_; first | assumption | exact gs_s (by assumption) | (refine gs_n (by decide) ?_; assumption))) | (refine gs_n (by decide) ?_; first | assumption | exact gs_s (by first | assumption | exact gs_s (by assumption) | (refine gs_n (by decide) ?_; assumption)) | (refine gs_n (by decide) ?_; first | assumption | exact gs_s (by assumption) | (refine gs_n (by decide) ?_; assumption)))) rfl rfl ?_
    refine am_B.run (hp := false) (sp := []) 200 rfl ?_
    refine am_B.ald rfl hLB (vp_n (show pos < 8 by omega) rfl) rfl ?_
    rw [nI_clamp (show pos < 2 ^ 31 by omega), hlab.1]
    refine am_B.run (hp := false) (sp := []) 200 rfl ?_
    refine am_B.get rfl rfl rfl (by first | assumption | exact gs_s (by first | assumption | exact gs_s (by first | assumption | exact gs_s (by assumption) | (refine gs_n (by decide) ?_; assumption)) | (refine gs_n (by decide) ?_; first | assumption | exact gs_s (by assumption) | (refine gs_n (by decide) ?_; assumption))) | (refine gs_n (by decide) ?_; first | assumption | exact gs_s (by first | assumption | exact gs_s (by assumption) | (refine gs_n (by decide) ?_; assumption)) | (refine gs_n (by decide) ?_; first | assumption | exact gs_s (by assumption) | (refine gs_n (by decide) ?_; assumption)))) rfl rfl ?_
    refine am_B.run (hp := false) (sp := []) 200 rfl ?_
    rw [nI_add]
    refine am_B.ald rfl h16 (vp_n (show pos + 1 < 9 by omega) rfl) (rs_get (show pos + 1 < 9 by omega)) ?_
    refine am_B.run (hp := false) (sp := [39]) 200 rfl ?_
    have L : ∀ (d t : Nat) (l8 : Option Value), t + d = T → (∀ t' k, t' < t → Ed n T gf m t' k → gl t' = nI (tl pos) → R (pos + 1) k + 1 ≠ R pos m) → am_B E_PF_bestMove (am_rm 2 0 0) (am_ZM E_PF_bestMove 0 0 (fun v h' => h' = h ∧ ∃ x, v = some (.int (nI x)) ∧ mvOK n T sz gl gf lc tl w R pos m x)) 39 [some (.ref 14), some (.ref (28 + 3 * q)), some (.int (nI pos)), some (.int (nI m)), some (.int (nI (R pos m))), some (.int (nI (tl pos))), some (.ref (17 + (pos + 1))), some (.int (nI t)), l8] [] h 0 0 := by
      intro d
      induction d with
      | zero =>
        intro t l8 ht I
        obtain rfl : t = T := by omega
        have b1 := hfar (pos + 1) (by omega) m hm
        have b2 := hfar pos hpos m hm
        refine am_B.run (hp := false) (sp := []) 200 rfl ?_
        refine am_B.get rfl rfl rfl (by first | assumption | exact gs_s (by first | assumption | exact gs_s (by first | assumption | exact gs_s (by assumption) | (refine gs_n (by decide) ?_; assumption)) | (refine gs_n (by decide) ?_; first | assumption | exact gs_s (by assumption) | (refine gs_n (by decide) ?_; assumption))) | (refine gs_n (by decide) ?_; first | assumption | exact gs_s (by first | assumption | exact gs_s (by assumption) | (refine gs_n (by decide) ?_; assumption)) | (refine gs_n (by decide) ?_; first | assumption | exact gs_s (by assumption) | (refine gs_n (by decide) ?_; assumption)))) rfl rfl ?_
        refine am_B.run (hp := false) (sp := []) 200 rfl ?_
        refine am_B.get rfl rfl rfl (by first | assumption | exact gs_s (by first | assumption | exact gs_s (by first | assumption | exact gs_s (by assumption) | (refine gs_n (by decide) ?_; assumption)) | (refine gs_n (by decide) ?_; first | assumption | exact gs_s (by assumption) | (refine gs_n (by decide) ?_; assumption))) | (refine gs_n (by decide) ?_; first | assumption | exact gs_s (by first | assumption | exact gs_s (by assumption) | (refine gs_n (by decide) ?_; assumption)) | (refine gs_n (by decide) ?_; first | assumption | exact gs_s (by assumption) | (refine gs_n (by decide) ?_; assumption)))) rfl rfl ?_
        refine am_B.run (hp := false) (sp := []) 200 rfl ?_
        refine am_B.icmp_ge rfl rfl (fun _ => ?_) (fun z => absurd (nI_le (by omega) (by omega)) z)
        refine am_B.run (hp := false) (sp := []) 200 rfl ?_
        refine am_B.ald rfl hrp1 (vp_n hm2 rfl) rfl ?_
        rw [nI_clamp (show m < 2 ^ 31 by omega)]
        refine am_B.run (hp := false) (sp := []) 200 rfl ?_
        refine am_B.callV (ci := 3) (n := 1) (as := [.int (nI (tl pos))]) rfl rfl rfl (ct_PF_traceWeight _ (tl pos) lc hlab.2 h13 h14) rfl rfl (by exact Nat.le_of_ble_eq_true rfl) rfl h14 rfl rfl (fun v h' z => ?_)
        obtain ⟨rfl, rfl⟩ := z
        refine am_B.run (hp := false) (sp := []) 200 rfl ?_
        rw [nI_add]
        refine am_B.icmp_ne rfl rfl (fun z => ?_) (fun z => ?_)
        · refine J137 _ _ _ _ ?_
          rcases hb2.2.2.1 m hm with q1 | ⟨t', k, q1, q2⟩
          · rcases (hb1 m hm).2.2.2 with q2 | q2 | ⟨t', k, q2, q3, q4⟩
            · omega
            · exact absurd (congrArg nI (show R (pos + 1) m + (lc (tl pos) * 4096 + 1) = R pos m by omega)) z
            · exact absurd (show R (pos + 1) k + 1 = R pos m by omega) (I t' k q2.1 q2 q3)
          · have := hb2.1 m hm t' k q1
            exact ⟨t', k, q1, by omega⟩
        · have e : R (pos + 1) m + (lc (tl pos) * 4096 + 1) = R pos m := nI_inj (by omega) (by omega) z
          refine am_B.run (hp := false) (sp := []) 200 rfl ?_
          refine am_B.callSN (n := 4) (as := [.int (nI 1), .int (-1), .int (nI (tl pos)), .int (nI m)]) rfl rfl rfl (ct_TA_packMove 0 _ _ _ _ _) rfl rfl (by exact Nat.le_of_ble_eq_true rfl) rfl rfl rfl (fun v h' z => ?_)
          obtain ⟨rfl, rfl⟩ := z
          rw [nI_add, m1_add, pack_eq (by decide) (by decide) (by have := hlab.2; omega)]
          refine am_B.run (hp := false) (sp := []) 200 rfl ?_
          exact am_B.iret rfl rfl rfl ⟨rfl, _, rfl, Or.inr (Or.inl ⟨hlt, e, rfl⟩)⟩
      | succ d ih =>
        intro t l8 ht I
        have htT : t < 10 := by omega
        have J106 : ∀ (x : Int32), (∀ k, Ed n T gf m t k → gl t = nI (tl pos) → R (pos + 1) k + 1 ≠ R pos m) → am_B E_PF_bestMove (am_rm 2 0 0) (am_ZM E_PF_bestMove 0 0 (fun v h' => h' = h ∧ ∃ x, v = some (.int (nI x)) ∧ mvOK n T sz gl gf lc tl w R pos m x)) 106 [some (.ref 14), some (.ref (28 + 3 * q)), some (.int (nI pos)), some (.int (nI m)), some (.int (nI (R pos m))), some (.int (nI (tl pos))), some (.ref (17 + (pos + 1))), some (.int (nI t)), some (.int x)] [] h 0 0 := by
          intro x hno
          refine am_B.run (hp := false) (sp := [39]) 200 rfl ?_
          rw [nI_add]
          refine ih (t + 1) _ (by omega) (fun t' k q1 q2 q3 => ?_)
          by_cases z : t' = t
          · subst z
            exact hno k q2 q3
          · exact I t' k (by omega) q2 q3
        refine am_B.run (hp := false) (sp := []) 200 rfl ?_
        refine am_B.get rfl rfl rfl (by first | assumption | exact gs_s (by first | assumption | exact gs_s (by first | assumption | exact gs_s (by assumption) | (refine gs_n (by decide) ?_; assumption)) | (refine gs_n (by decide) ?_; first | assumption | exact gs_s (by assumption) | (refine gs_n (by decide) ?_; assumption))) | (refine gs_n (by decide) ?_; first | assumption | exact gs_s (by first | assumption | exact gs_s (by assumption) | (refine gs_n (by decide) ?_; assumption)) | (refine gs_n (by decide) ?_; first | assumption | exact gs_s (by assumption) | (refine gs_n (by decide) ?_; assumption)))) rfl rfl ?_
        refine am_B.run (hp := false) (sp := []) 200 rfl ?_
        refine am_B.get rfl rfl rfl (by first | assumption | exact gs_s (by first | assumption | exact gs_s (by first | assumption | exact gs_s (by assumption) | (refine gs_n (by decide) ?_; assumption)) | (refine gs_n (by decide) ?_; first | assumption | exact gs_s (by assumption) | (refine gs_n (by decide) ?_; assumption))) | (refine gs_n (by decide) ?_; first | assumption | exact gs_s (by first | assumption | exact gs_s (by assumption) | (refine gs_n (by decide) ?_; assumption)) | (refine gs_n (by decide) ?_; first | assumption | exact gs_s (by assumption) | (refine gs_n (by decide) ?_; assumption)))) rfl rfl ?_
        refine am_B.run (hp := false) (sp := []) 200 rfl ?_
        refine am_B.icmp_ge rfl rfl (fun z => absurd z (nI_ge (by omega) (by omega))) (fun _ => ?_)
        refine am_B.run (hp := false) (sp := []) 200 rfl ?_
        refine am_B.get rfl rfl rfl (by first | assumption | exact gs_s (by first | assumption | exact gs_s (by first | assumption | exact gs_s (by assumption) | (refine gs_n (by decide) ?_; assumption)) | (refine gs_n (by decide) ?_; first | assumption | exact gs_s (by assumption) | (refine gs_n (by decide) ?_; assumption))) | (refine gs_n (by decide) ?_; first | assumption | exact gs_s (by first | assumption | exact gs_s (by assumption) | (refine gs_n (by decide) ?_; assumption)) | (refine gs_n (by decide) ?_; first | assumption | exact gs_s (by assumption) | (refine gs_n (by decide) ?_; assumption)))) rfl rfl ?_
        refine am_B.run (hp := false) (sp := []) 200 rfl ?_
        refine am_B.callV (ci := 2) (n := 2) (as := [.int (nI m), .int (nI t)]) rfl rfl rfl (ct_MG_follower 0 _ m t ex (nI n) la gf hm2 htT h9 h12) rfl rfl (by exact Nat.le_of_ble_eq_true rfl) rfl h9 rfl rfl (fun v h' q => ?_)
        obtain ⟨rfl, rfl⟩ := q
        refine am_B.run (hp := false) (sp := []) 200 rfl ?_
        refine am_B.get rfl rfl rfl (by first | assumption | exact gs_s (by first | assumption | exact gs_s (by first | assumption | exact gs_s (by assumption) | (refine gs_n (by decide) ?_; assumption)) | (refine gs_n (by decide) ?_; first | assumption | exact gs_s (by assumption) | (refine gs_n (by decide) ?_; assumption))) | (refine gs_n (by decide) ?_; first | assumption | exact gs_s (by first | assumption | exact gs_s (by assumption) | (refine gs_n (by decide) ?_; assumption)) | (refine gs_n (by decide) ?_; first | assumption | exact gs_s (by assumption) | (refine gs_n (by decide) ?_; assumption)))) rfl rfl ?_
        refine am_B.run (hp := false) (sp := []) 200 rfl ?_
        refine am_B.get rfl rfl rfl (by first | assumption | exact gs_s (by first | assumption | exact gs_s (by first | assumption | exact gs_s (by assumption) | (refine gs_n (by decide) ?_; assumption)) | (refine gs_n (by decide) ?_; first | assumption | exact gs_s (by assumption) | (refine gs_n (by decide) ?_; assumption))) | (refine gs_n (by decide) ?_; first | assumption | exact gs_s (by first | assumption | exact gs_s (by assumption) | (refine gs_n (by decide) ?_; assumption)) | (refine gs_n (by decide) ?_; first | assumption | exact gs_s (by assumption) | (refine gs_n (by decide) ?_; assumption)))) rfl rfl ?_
        refine am_B.run (hp := false) (sp := []) 200 rfl ?_
        refine am_B.ald rfl h3 (vp_n htT rfl) rfl ?_
        rw [nI_clamp (show t < 2 ^ 31 by omega)]
        refine am_B.run (hp := false) (sp := []) 200 rfl ?_
        refine am_B.icmp_ne rfl rfl (fun z => ?_) (fun z => ?_)
        · exact J106 _ fun k he hl' => absurd hl' z
        · refine am_B.run (hp := false) (sp := []) 200 rfl ?_
          refine am_B.icmp_eq rfl rfl (fun z2 => ?_) (fun z2 => ?_)
          · exact J106 _ fun k he _ => absurd (he.2.2.symm.trans z2) (nI_neg1 (by have := he.2.1; omega))
          · obtain ⟨k, hk, hgk⟩ := (hwf m hm t (by omega)).resolve_left z2
            have he : Ed n T gf m t k := ⟨by omega, hk, hgk⟩
            have hk2 : k < 200 := by omega
            have b1 := hfar (pos + 1) (by omega) k hk
            have b2 := hfar pos hpos m hm
            refine am_B.run (hp := false) (sp := []) 200 rfl ?_
            rw [hgk]
            refine am_B.ald rfl hrp1 (vp_n hk2 rfl) rfl ?_
            rw [nI_clamp (show k < 2 ^ 31 by omega)]
            refine am_B.run (hp := false) (sp := []) 200 rfl ?_
            rw [nI_add]
            refine am_B.icmp_ne rfl rfl (fun z3 => ?_) (fun z3 => ?_)
            · refine J106 (nI k) fun k' he' _ q => z3 ?_
              have e2 : k' = k := nI_inj (by have := he'.2.1; omega) (by omega) (he'.2.2.symm.trans hgk)
              subst e2
              exact congrArg nI q
            · have e : R (pos + 1) k + 1 = R pos m := nI_inj (by omega) (by omega) z3
              refine am_B.run (hp := false) (sp := []) 200 rfl ?_
              refine am_B.callSN (n := 4) (as := [.int (nI 0), .int (nI t), .int (nI (tl pos)), .int (nI m)]) rfl rfl rfl (ct_TA_packMove 0 _ _ _ _ _) rfl rfl (by exact Nat.le_of_ble_eq_true rfl) rfl rfl rfl (fun v h' z => ?_)
              obtain ⟨rfl, rfl⟩ := z
              rw [nI_add, nI_add, pack_eq (by decide) (by omega) (by have := hlab.2; omega)]
              refine am_B.run (hp := false) (sp := []) 200 rfl ?_
              exact am_B.iret rfl rfl rfl ⟨rfl, _, rfl, Or.inl ⟨t, k, hlt, he, z, e, rfl⟩⟩
    exact L T 0 none (by omega) (fun t' k q => absurd q (by omega))
