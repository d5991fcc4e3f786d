theorem vp_n {k n : Nat} (h : k < n) (hn : Nat.ble (n + 1) 2147483648 = true) : vp_in (nI k) n := vp_in_nI h (Nat.le_of_ble_eq_true hn)
/-! THE GRAPH: markings and what leads from one to another. What a marking's code is plays no part. -/
theorem nI_neg1 {k : Nat} (h : k < 2 ^ 31) : ¬ nI k = -1 := by
  intro e
  have h1 := nI_toInt h
  rw [e] at h1
  have h2 : ((-1 : Int32)).toInt = -1 := rfl
  rw [h2] at h1
  omega
set_option maxRecDepth 100000 in
set_option maxHeartbeats 4000000 in
theorem ct_NT_codeOf (f : Nat) (h : am_H) (P a : Nat) (tc : Int32) (g : Nat → Int32) (hP : P ≤ 8) (h2 : h[2]? = some (c_NT (nI P) tc)) (ha : h[a]? = some (ia 8 g)) : am_Ct am_G0 m_NT_codeOf f 0 0 [.ref 2, .ref a] h (fun v h' => h' = h ∧ ∃ r, v = some (.int r)) := by
  refine am_Ct.of (E := E_NT_codeOf) e_NT_codeOf (by decide) (Nat.le_of_ble_eq_true rfl) ?_
  have L : ∀ d i (x : Int32), i + d = P → am_B E_NT_codeOf (am_rm f 0 0) (am_ZM E_NT_codeOf 0 0 (fun v h' => h' = h ∧ ∃ r, v = some (.int r))) 4 [some (.ref 2), some (.ref a), some (.int x), some (.int (nI i))] [] h 0 0 := by
    intro d
    induction d with
    | zero =>
      intro i x hi
      refine am_B.run (hp := false) (sp := []) 200 rfl ?_
      refine am_B.get rfl rfl rfl (by first | assumption | exact gs_s (by first | assumption | exact gs_s (by first | assumption | exact gs_s (by assumption) | (refine gs_n (by decide) ?_; assumption)) | (refine gs_n (by decide) ?_; first | assumption | exact gs_s (by assumption) | (refine gs_n (by decide) ?_; assumption))) | (refine gs_n (by decide) ?_; first | assumption | exact gs_s (by first | assumption | exact gs_s (by assumption) | (refine gs_n (by decide) ?_; assumption)) | (refine gs_n (by decide) ?_; first | assumption | exact gs_s (by assumption) | (refine gs_n (by decide) ?_; assumption)))) rfl rfl ?_
      refine am_B.run (hp := false) (sp := []) 200 rfl ?_
      refine am_B.icmp_ge rfl rfl (fun _ => ?_) (fun q => absurd (nI_le (by omega) (by omega)) q)
      refine am_B.run (hp := false) (sp := []) 200 rfl ?_
      exact am_B.iret rfl rfl rfl ⟨rfl, _, rfl⟩
    | succ d ih =>
      intro i x hi
      refine am_B.run (hp := false) (sp := []) 200 rfl ?_
      refine am_B.get rfl rfl rfl (by first | assumption | exact gs_s (by first | assumption | exact gs_s (by first | assumption | exact gs_s (by assumption) | (refine gs_n (by decide) ?_; assumption)) | (refine gs_n (by decide) ?_; first | assumption | exact gs_s (by assumption) | (refine gs_n (by decide) ?_; assumption))) | (refine gs_n (by decide) ?_; first | assumption | exact gs_s (by first | assumption | exact gs_s (by assumption) | (refine gs_n (by decide) ?_; assumption)) | (refine gs_n (by decide) ?_; first | assumption | exact gs_s (by assumption) | (refine gs_n (by decide) ?_; assumption)))) rfl rfl ?_
      refine am_B.run (hp := false) (sp := []) 200 rfl ?_
      refine am_B.icmp_ge rfl rfl (fun q => absurd q (nI_ge (by omega) (by omega))) (fun _ => ?_)
      refine am_B.run (hp := false) (sp := []) 200 rfl ?_
      refine am_B.ald rfl ha (vp_n (by omega) rfl) rfl ?_
      refine am_B.run (hp := false) (sp := [4]) 200 rfl ?_
      rw [nI_add]
      exact ih (i + 1) _ (by omega)
  refine am_B.run (hp := false) (sp := [4]) 200 rfl ?_
  exact L P 0 _ (by omega)
set_option maxRecDepth 100000 in
set_option maxHeartbeats 4000000 in
theorem ct_NT_codeBehind (h : am_H) (P t : Nat) (tc c : Int32) (gi go : Nat → Int32) (hP : P ≤ 8) (ht : t < 10) (h2 : h[2]? = some (c_NT (nI P) tc)) (h5 : h[5]? = some (ia 10 gi)) (h6 : h[6]? = some (ia 10 go)) : am_Ct am_G0 m_NT_codeBehind 1 0 0 [.ref 2, .int c, .int (nI t)] h (fun v h' => h' = h ∧ ∃ r, v = some (.int r)) := by
  refine am_Ct.of (E := E_NT_codeBehind) e_NT_codeBehind (by decide) (Nat.le_of_ble_eq_true rfl) ?_
  have L : ∀ d i (x : Int32), i + d = P → ∀ l5 l6 l7 : Option Value, am_B E_NT_codeBehind (am_rm 1 0 0) (am_ZM E_NT_codeBehind 0 0 (fun v h' => h' = h ∧ ∃ r, v = some (.int r))) 5 [some (.ref 2), some (.int c), some (.int (nI t)), some (.int x), some (.int (nI i)), l5, l6, l7] [] h 0 0 := by
    intro d
    induction d with
    | zero =>
      intro i x hi l5 l6 l7
      refine am_B.run (hp := false) (sp := []) 200 rfl ?_
      refine am_B.get rfl rfl rfl (by first | assumption | exact gs_s (by first | assumption | exact gs_s (by first | assumption | exact gs_s (by assumption) | (refine gs_n (by decide) ?_; assumption)) | (refine gs_n (by decide) ?_; first | assumption | exact gs_s (by assumption) | (refine gs_n (by decide) ?_; assumption))) | (refine gs_n (by decide) ?_; first | assumption | exact gs_s (by first | assumption | exact gs_s (by assumption) | (refine gs_n (by decide) ?_; assumption)) | (refine gs_n (by decide) ?_; first | assumption | exact gs_s (by assumption) | (refine gs_n (by decide) ?_; assumption)))) rfl rfl ?_
      refine am_B.run (hp := false) (sp := []) 200 rfl ?_
      refine am_B.icmp_ge rfl rfl (fun _ => ?_) (fun q => absurd (nI_le (by omega) (by omega)) q)
      refine am_B.run (hp := false) (sp := []) 200 rfl ?_
      exact am_B.iret rfl rfl rfl ⟨rfl, _, rfl⟩
    | succ d ih =>
      intro i x hi l5 l6 l7
      have J56 : ∀ (x5 x6 : Int32), am_B E_NT_codeBehind (am_rm 1 0 0) (am_ZM E_NT_codeBehind 0 0 (fun v h' => h' = h ∧ ∃ r, v = some (.int r))) 56 [some (.ref 2), some (.int c), some (.int (nI t)), some (.int x), some (.int (nI i)), some (.int x5), some (.int x6), l7] [] h 0 0 := by
        intro x5 x6
        refine am_B.run (hp := false) (sp := []) 200 rfl ?_
        refine am_B.callSN (n := 2) (as := [.int c, .int (nI i)]) rfl rfl rfl (ct_TA_tokensIn 0 _ _ _) rfl rfl (by exact Nat.le_of_ble_eq_true rfl) rfl rfl rfl (fun v h' q => ?_)
        obtain ⟨rfl, rfl⟩ := q
        refine am_B.run (hp := false) (sp := []) 200 rfl ?_
        refine am_B.icmp_lt rfl rfl (fun _ => ?_) (fun _ => ?_)
        · refine am_B.run (hp := false) (sp := []) 200 rfl ?_
          exact am_B.iret rfl rfl rfl ⟨rfl, _, rfl⟩
        · refine am_B.run (hp := false) (sp := []) 200 rfl ?_
          refine am_B.icmp_le rfl rfl (fun _ => ?_) (fun _ => ?_)
          · refine am_B.run (hp := false) (sp := [5]) 200 rfl ?_
            rw [nI_add]
            exact ih (i + 1) _ (by omega) _ _ _
          · refine am_B.run (hp := false) (sp := []) 200 rfl ?_
            exact am_B.iret rfl rfl rfl ⟨rfl, _, rfl⟩
      have J35 : ∀ (x5 : Int32), am_B E_NT_codeBehind (am_rm 1 0 0) (am_ZM E_NT_codeBehind 0 0 (fun v h' => h' = h ∧ ∃ r, v = some (.int r))) 35 [some (.ref 2), some (.int c), some (.int (nI t)), some (.int x), some (.int (nI i)), some (.int x5), l6, l7] [] h 0 0 := by
        intro x5
        refine am_B.run (hp := false) (sp := []) 200 rfl ?_
        refine am_B.get rfl rfl rfl (by first | assumption | exact gs_s (by first | assumption | exact gs_s (by first | assumption | exact gs_s (by assumption) | (refine gs_n (by decide) ?_; assumption)) | (refine gs_n (by decide) ?_; first | assumption | exact gs_s (by assumption) | (refine gs_n (by decide) ?_; assumption))) | (refine gs_n (by decide) ?_; first | assumption | exact gs_s (by first | assumption | exact gs_s (by assumption) | (refine gs_n (by decide) ?_; assumption)) | (refine gs_n (by decide) ?_; first | assumption | exact gs_s (by assumption) | (refine gs_n (by decide) ?_; assumption)))) rfl rfl ?_
        refine am_B.run (hp := false) (sp := []) 200 rfl ?_
        refine am_B.ald rfl h6 (vp_n ht rfl) rfl ?_
        refine am_B.run (hp := false) (sp := []) 200 rfl ?_
        refine am_B.callSN (n := 2) (as := [.int _, .int (nI i)]) rfl rfl rfl (ct_TA_isIn 0 _ _ _) rfl rfl (by exact Nat.le_of_ble_eq_true rfl) rfl rfl rfl (fun v h' q => ?_)
        obtain ⟨rfl, rfl⟩ := q
        refine am_B.run (hp := false) (sp := []) 200 rfl ?_
        refine am_B.if_eq rfl rfl (fun _ => ?_) (fun _ => ?_)
        · refine am_B.run (hp := false) (sp := [56]) 200 rfl ?_
          exact J56 _ _
        · refine am_B.run (hp := false) (sp := [56]) 200 rfl ?_
          exact J56 _ _
      refine am_B.run (hp := false) (sp := []) 200 rfl ?_
      refine am_B.get rfl rfl rfl (by first | assumption | exact gs_s (by first | assumption | exact gs_s (by first | assumption | exact gs_s (by assumption) | (refine gs_n (by decide) ?_; assumption)) | (refine gs_n (by decide) ?_; first | assumption | exact gs_s (by assumption) | (refine gs_n (by decide) ?_; assumption))) | (refine gs_n (by decide) ?_; first | assumption | exact gs_s (by first | assumption | exact gs_s (by assumption) | (refine gs_n (by decide) ?_; assumption)) | (refine gs_n (by decide) ?_; first | assumption | exact gs_s (by assumption) | (refine gs_n (by decide) ?_; assumption)))) rfl rfl ?_
      refine am_B.run (hp := false) (sp := []) 200 rfl ?_
      refine am_B.icmp_ge rfl rfl (fun q => absurd q (nI_ge (by omega) (by omega))) (fun _ => ?_)
      refine am_B.run (hp := false) (sp := []) 200 rfl ?_
      refine am_B.get rfl rfl rfl (by first | assumption | exact gs_s (by first | assumption | exact gs_s (by first | assumption | exact gs_s (by assumption) | (refine gs_n (by decide) ?_; assumption)) | (refine gs_n (by decide) ?_; first | assumption | exact gs_s (by assumption) | (refine gs_n (by decide) ?_; assumption))) | (refine gs_n (by decide) ?_; first | assumption | exact gs_s (by first | assumption | exact gs_s (by assumption) | (refine gs_n (by decide) ?_; assumption)) | (refine gs_n (by decide) ?_; first | assumption | exact gs_s (by assumption) | (refine gs_n (by decide) ?_; assumption)))) rfl rfl ?_
      refine am_B.run (hp := false) (sp := []) 200 rfl ?_
      refine am_B.ald rfl h5 (vp_n ht rfl) rfl ?_
      refine am_B.run (hp := false) (sp := []) 200 rfl ?_
      refine am_B.callSN (n := 2) (as := [.int _, .int (nI i)]) rfl rfl rfl (ct_TA_isIn 0 _ _ _) rfl rfl (by exact Nat.le_of_ble_eq_true rfl) rfl rfl rfl (fun v h' q => ?_)
      obtain ⟨rfl, rfl⟩ := q
      refine am_B.run (hp := false) (sp := []) 200 rfl ?_
      refine am_B.if_eq rfl rfl (fun _ => ?_) (fun _ => ?_)
      · refine am_B.run (hp := false) (sp := [35]) 200 rfl ?_
        exact J35 _
      · refine am_B.run (hp := false) (sp := [35]) 200 rfl ?_
        exact J35 _
  refine am_B.run (hp := false) (sp := [5]) 200 rfl ?_
  exact L P 0 _ (by omega) _ _ _
set_option maxRecDepth 100000 in
set_option maxHeartbeats 4000000 in
theorem ct_MG_numberOf (h : am_H) (sz : Nat) (ex la c : Int32) (g : Nat → Int32) (hs : sz ≤ 200) (h9 : h[9]? = some (c_MG ex (nI sz) la)) (h10 : h[10]? = some (ia 200 g)) : am_Ct am_G0 m_MG_numberOf 0 0 0 [.ref 9, .int c] h (fun v h' => h' = h ∧ ∃ r, v = some (.int r) ∧ (r = -1 ∨ ∃ k, k < sz ∧ r = nI k)) := by
  refine am_Ct.of (E := E_MG_numberOf) e_MG_numberOf (by decide) (Nat.le_of_ble_eq_true rfl) ?_
  have L : ∀ d i, i + d = sz → am_B E_MG_numberOf (am_rm 0 0 0) (am_ZM E_MG_numberOf 0 0 (fun v h' => h' = h ∧ ∃ r, v = some (.int r) ∧ (r = -1 ∨ ∃ k, k < sz ∧ r = nI k))) 2 [some (.ref 9), some (.int c), some (.int (nI i))] [] h 0 0 := by
    intro d
    induction d with
    | zero =>
      intro i hi
      refine am_B.run (hp := false) (sp := []) 200 rfl ?_
      refine am_B.get rfl rfl rfl (by first | assumption | exact gs_s (by first | assumption | exact gs_s (by first | assumption | exact gs_s (by assumption) | (refine gs_n (by decide) ?_; assumption)) | (refine gs_n (by decide) ?_; first | assumption | exact gs_s (by assumption) | (refine gs_n (by decide) ?_; assumption))) | (refine gs_n (by decide) ?_; first | assumption | exact gs_s (by first | assumption | exact gs_s (by assumption) | (refine gs_n (by decide) ?_; assumption)) | (refine gs_n (by decide) ?_; first | assumption | exact gs_s (by assumption) | (refine gs_n (by decide) ?_; assumption)))) rfl rfl ?_
      refine am_B.run (hp := false) (sp := []) 200 rfl ?_
      refine am_B.icmp_ge rfl rfl (fun _ => ?_) (fun q => absurd (nI_le (by omega) (by omega)) q)
      refine am_B.run (hp := false) (sp := []) 200 rfl ?_
      exact am_B.iret rfl rfl rfl ⟨rfl, _, rfl, Or.inl rfl⟩
    | succ d ih =>
      intro i hi
      refine am_B.run (hp := false) (sp := []) 200 rfl ?_
      refine am_B.get rfl rfl rfl (by first | assumption | exact gs_s (by first | assumption | exact gs_s (by first | assumption | exact gs_s (by assumption) | (refine gs_n (by decide) ?_; assumption)) | (refine gs_n (by decide) ?_; first | assumption | exact gs_s (by assumption) | (refine gs_n (by decide) ?_; assumption))) | (refine gs_n (by decide) ?_; first | assumption | exact gs_s (by first | assumption | exact gs_s (by assumption) | (refine gs_n (by decide) ?_; assumption)) | (refine gs_n (by decide) ?_; first | assumption | exact gs_s (by assumption) | (refine gs_n (by decide) ?_; assumption)))) rfl rfl ?_
      refine am_B.run (hp := false) (sp := []) 200 rfl ?_
      refine am_B.icmp_ge rfl rfl (fun q => absurd q (nI_ge (by omega) (by omega))) (fun _ => ?_)
      refine am_B.run (hp := false) (sp := []) 200 rfl ?_
      refine am_B.get rfl rfl rfl (by first | assumption | exact gs_s (by first | assumption | exact gs_s (by first | assumption | exact gs_s (by assumption) | (refine gs_n (by decide) ?_; assumption)) | (refine gs_n (by decide) ?_; first | assumption | exact gs_s (by assumption) | (refine gs_n (by decide) ?_; assumption))) | (refine gs_n (by decide) ?_; first | assumption | exact gs_s (by first | assumption | exact gs_s (by assumption) | (refine gs_n (by decide) ?_; assumption)) | (refine gs_n (by decide) ?_; first | assumption | exact gs_s (by assumption) | (refine gs_n (by decide) ?_; assumption)))) rfl rfl ?_
      refine am_B.run (hp := false) (sp := []) 200 rfl ?_
      refine am_B.ald rfl h10 (vp_n (show i < 200 by omega) rfl) rfl ?_
      refine am_B.run (hp := false) (sp := []) 200 rfl ?_
      refine am_B.icmp_ne rfl rfl (fun _ => ?_) (fun _ => ?_)
      · refine am_B.run (hp := false) (sp := [2]) 200 rfl ?_
        rw [nI_add]
        exact ih (i + 1) (by omega)
      · refine am_B.run (hp := false) (sp := []) 200 rfl ?_
        exact am_B.iret rfl rfl rfl ⟨rfl, _, rfl, Or.inr ⟨i, by omega, rfl⟩⟩
  refine am_B.run (hp := false) (sp := [2]) 200 rfl ?_
  exact L sz 0 (by omega)
set_option maxRecDepth 100000 in
set_option maxHeartbeats 4000000 in
theorem ct_MG_numberOrAppend (h : am_H) (sz : Nat) (ex la c : Int32) (g : Nat → Int32) (hs : sz ≤ 200) (h9 : h[9]? = some (c_MG ex (nI sz) la)) (h10 : h[10]? = some (ia 200 g)) : am_Ct am_G0 m_MG_numberOrAppend 1 0 0 [.ref 9, .int c] h (fun v h' =>
    ∃ r sz' g', v = some (.int r) ∧ h' = (h.set 10 (ia 200 g')).set 9 (c_MG ex (nI sz') la) ∧ sz' ≤ 200 ∧ ((r = -1 ∧ sz' = sz) ∨ ∃ k, r = nI k ∧ ((k < sz ∧ sz' = sz) ∨ (k = sz ∧ sz' = sz + 1)))) := by
  have same : h = (h.set 10 (ia 200 g)).set 9 (c_MG ex (nI sz) la) := by rw [gs_id h10, gs_id h9]
  refine am_Ct.of (E := E_MG_numberOrAppend) e_MG_numberOrAppend (by decide) (Nat.le_of_ble_eq_true rfl) ?_
  refine am_B.run (hp := false) (sp := []) 200 rfl ?_
  refine am_B.callV (ci := 2) (n := 1) (as := [.int c]) rfl rfl rfl (ct_MG_numberOf h sz ex la c g hs h9 h10) rfl rfl (by exact Nat.le_of_ble_eq_true rfl) rfl h9 rfl rfl (fun v h' q => ?_)
  obtain ⟨rfl, r, rfl, hr⟩ := q
  refine am_B.run (hp := false) (sp := []) 200 rfl ?_
  refine am_B.icmp_ne rfl rfl (fun hne => ?_) (fun he => ?_)
  · refine am_B.run (hp := false) (sp := []) 200 rfl ?_
    refine am_B.iret rfl rfl rfl ⟨r, sz, g, rfl, same, hs, ?_⟩
    obtain ⟨k, h1, h2⟩ := hr.resolve_left hne
    exact Or.inr ⟨k, h2, Or.inl ⟨h1, rfl⟩⟩
  · refine am_B.run (hp := false) (sp := []) 200 rfl ?_
    refine am_B.get rfl rfl rfl (by first | assumption | exact gs_s (by first | assumption | exact gs_s (by first | assumption | exact gs_s (by assumption) | (refine gs_n (by decide) ?_; assumption)) | (refine gs_n (by decide) ?_; first | assumption | exact gs_s (by assumption) | (refine gs_n (by decide) ?_; assumption))) | (refine gs_n (by decide) ?_; first | assumption | exact gs_s (by first | assumption | exact gs_s (by assumption) | (refine gs_n (by decide) ?_; assumption)) | (refine gs_n (by decide) ?_; first | assumption | exact gs_s (by assumption) | (refine gs_n (by decide) ?_; assumption)))) rfl rfl ?_
    refine am_B.run (hp := false) (sp := []) 200 rfl ?_
    refine am_B.icmp_lt rfl rfl (fun q => ?_) (fun _ => ?_)
    · have hlt : sz < 200 := by
        rcases Nat.lt_or_ge sz 200 with z | z
        · exact z
        · exact absurd q (nI_nlt z (by omega))
      refine am_B.run (hp := false) (sp := []) 200 rfl ?_
      refine am_B.get rfl rfl rfl (by first | assumption | exact gs_s (by first | assumption | exact gs_s (by first | assumption | exact gs_s (by assumption) | (refine gs_n (by decide) ?_; assumption)) | (refine gs_n (by decide) ?_; first | assumption | exact gs_s (by assumption) | (refine gs_n (by decide) ?_; assumption))) | (refine gs_n (by decide) ?_; first | assumption | exact gs_s (by first | assumption | exact gs_s (by assumption) | (refine gs_n (by decide) ?_; assumption)) | (refine gs_n (by decide) ?_; first | assumption | exact gs_s (by assumption) | (refine gs_n (by decide) ?_; assumption)))) rfl rfl ?_
      refine am_B.run (hp := false) (sp := []) 200 rfl ?_
      refine am_B.get rfl rfl rfl (by first | assumption | exact gs_s (by first | assumption | exact gs_s (by first | assumption | exact gs_s (by assumption) | (refine gs_n (by decide) ?_; assumption)) | (refine gs_n (by decide) ?_; first | assumption | exact gs_s (by assumption) | (refine gs_n (by decide) ?_; assumption))) | (refine gs_n (by decide) ?_; first | assumption | exact gs_s (by first | assumption | exact gs_s (by assumption) | (refine gs_n (by decide) ?_; assumption)) | (refine gs_n (by decide) ?_; first | assumption | exact gs_s (by assumption) | (refine gs_n (by decide) ?_; assumption)))) rfl rfl ?_
      refine am_B.run (hp := false) (sp := []) 200 rfl ?_
      refine am_B.ast rfl h10 (vp_n hlt rfl) rfl ?_
      rw [nI_clamp (show sz < 2 ^ 31 by omega)]
      refine am_B.run (hp := false) (sp := []) 200 rfl ?_
      refine am_B.get rfl rfl rfl (by first | assumption | exact gs_s (by first | assumption | exact gs_s (by first | assumption | exact gs_s (by assumption) | (refine gs_n (by decide) ?_; assumption)) | (refine gs_n (by decide) ?_; first | assumption | exact gs_s (by assumption) | (refine gs_n (by decide) ?_; assumption))) | (refine gs_n (by decide) ?_; first | assumption | exact gs_s (by first | assumption | exact gs_s (by assumption) | (refine gs_n (by decide) ?_; assumption)) | (refine gs_n (by decide) ?_; first | assumption | exact gs_s (by assumption) | (refine gs_n (by decide) ?_; assumption)))) rfl rfl ?_
      refine am_B.run (hp := false) (sp := []) 200 rfl ?_
      refine am_B.put rfl rfl rfl (by first | assumption | exact gs_s (by first | assumption | exact gs_s (by first | assumption | exact gs_s (by assumption) | (refine gs_n (by decide) ?_; assumption)) | (refine gs_n (by decide) ?_; first | assumption | exact gs_s (by assumption) | (refine gs_n (by decide) ?_; assumption))) | (refine gs_n (by decide) ?_; first | assumption | exact gs_s (by first | assumption | exact gs_s (by assumption) | (refine gs_n (by decide) ?_; assumption)) | (refine gs_n (by decide) ?_; first | assumption | exact gs_s (by assumption) | (refine gs_n (by decide) ?_; assumption)))) rfl (Nat.le_of_ble_eq_true rfl) rfl (fun q => by cases q) ?_
      refine am_B.run (hp := false) (sp := []) 200 rfl ?_
      refine am_B.get rfl rfl rfl (gs_s (gs_n (by decide) h9)) rfl rfl ?_
      refine am_B.run (hp := false) (sp := []) 200 rfl ?_
      exact am_B.iret rfl rfl rfl ⟨_, sz + 1, upd g sz c, rfl, by rw [← nI_add sz 1]; rfl, by omega, Or.inr ⟨sz, by rw [nI_add]; exact nI_pred sz, Or.inr ⟨rfl, rfl⟩⟩⟩
    · refine am_B.run (hp := false) (sp := []) 200 rfl ?_
      exact am_B.iret rfl rfl rfl ⟨_, sz, g, rfl, same, hs, Or.inl ⟨he, rfl⟩⟩
set_option maxRecDepth 100000 in
set_option maxHeartbeats 4000000 in
theorem ct_MG_follower (f : Nat) (h : am_H) (m t : Nat) (ex sz la : Int32) (g : Nat → Int32) (hm : m < 200) (ht : t < 10) (h9 : h[9]? = some (c_MG ex sz la)) (h12 : h[12]? = some (ia 2000 g)) : am_Ct am_G0 m_MG_follower f 0 0 [.ref 9, .int (nI m), .int (nI t)] h (fun v h' => h' = h ∧ v = some (.int (g (m * 10 + t)))) := by
  refine am_Ct.of (E := E_MG_follower) e_MG_follower (by decide) (Nat.le_of_ble_eq_true rfl) ?_
  refine am_B.run (hp := false) (sp := []) 200 rfl ?_
  refine am_B.get rfl rfl rfl (by first | assumption | exact gs_s (by first | assumption | exact gs_s (by first | assumption | exact gs_s (by assumption) | (refine gs_n (by decide) ?_; assumption)) | (refine gs_n (by decide) ?_; first | assumption | exact gs_s (by assumption) | (refine gs_n (by decide) ?_; assumption))) | (refine gs_n (by decide) ?_; first | assumption | exact gs_s (by first | assumption | exact gs_s (by assumption) | (refine gs_n (by decide) ?_; assumption)) | (refine gs_n (by decide) ?_; first | assumption | exact gs_s (by assumption) | (refine gs_n (by decide) ?_; assumption)))) rfl rfl ?_
  refine am_B.run (hp := false) (sp := []) 200 rfl ?_
  rw [pk_mul, nI_add]
  refine am_B.ald rfl h12 (vp_n (show m * 10 + t < 2000 by omega) rfl) rfl ?_
  rw [nI_clamp (show m * 10 + t < 2 ^ 31 by omega)]
  refine am_B.run (hp := false) (sp := []) 200 rfl ?_
  exact am_B.iret rfl rfl rfl ⟨rfl, rfl⟩
