/-! EXPLORING: the four cells that it changes are 9 (the graph), 10 (codes), 11 (enabled sets), 12 (followers) -/
theorem fa_or (a b : Nat) : nI a ||| nI b = nI (a ||| b) := by
  apply Int32.toBitVec_inj.1
  show BitVec.ofNat 32 a ||| BitVec.ofNat 32 b = BitVec.ofNat 32 (a ||| b)
  apply BitVec.eq_of_getLsbD_eq
  intro i hi
  simp [hi]
theorem shl1 : ∀ t, t < 10 → nI 1 <<< (nI t &&& 31) = nI (2 ^ t) := by
  intro t ht
  obtain rfl | rfl | rfl | rfl | rfl | rfl | rfl | rfl | rfl | rfl : t = 0 ∨ t = 1 ∨ t = 2 ∨ t = 3 ∨ t = 4 ∨ t = 5 ∨ t = 6 ∨ t = 7 ∨ t = 8 ∨ t = 9 := by omega
  all_goals decide
def n4 (h : am_H) (a b c d : am_C) : am_H := (((h.set 9 a).set 10 b).set 11 c).set 12 d
theorem n4_s9 {h : am_H} {a b c d x : am_C} : (n4 h a b c d).set 9 x = n4 h x b c d := by
  unfold n4
  rw [List.set_comm _ _ (by decide : (12 : Nat) ≠ 9), List.set_comm _ _ (by decide : (11 : Nat) ≠ 9), List.set_comm _ _ (by decide : (10 : Nat) ≠ 9), List.set_set]
theorem n4_s10 {h : am_H} {a b c d x : am_C} : (n4 h a b c d).set 10 x = n4 h a x c d := by
  unfold n4
  rw [List.set_comm _ _ (by decide : (12 : Nat) ≠ 10), List.set_comm _ _ (by decide : (11 : Nat) ≠ 10), List.set_set]
theorem n4_s11 {h : am_H} {a b c d x : am_C} : (n4 h a b c d).set 11 x = n4 h a b x d := by
  unfold n4
  rw [List.set_comm _ _ (by decide : (12 : Nat) ≠ 11), List.set_set]
theorem n4_s12 {h : am_H} {a b c d x : am_C} : (n4 h a b c d).set 12 x = n4 h a b c x := by
  unfold n4
  rw [List.set_set]
theorem n4_9 {h : am_H} {a b c d : am_C} (hl : 12 < h.length) : (n4 h a b c d)[9]? = some a := by
  unfold n4
  rw [List.getElem?_set_ne (by decide), List.getElem?_set_ne (by decide), List.getElem?_set_ne (by decide), List.getElem?_set_self (by omega)]
theorem n4_10 {h : am_H} {a b c d : am_C} (hl : 12 < h.length) : (n4 h a b c d)[10]? = some b := by
  unfold n4
  rw [List.getElem?_set_ne (by decide), List.getElem?_set_ne (by decide), List.getElem?_set_self (by rw [List.length_set]; omega)]
theorem n4_11 {h : am_H} {a b c d : am_C} (hl : 12 < h.length) : (n4 h a b c d)[11]? = some c := by
  unfold n4
  rw [List.getElem?_set_ne (by decide), List.getElem?_set_self (by rw [List.length_set, List.length_set]; omega)]
theorem n4_12 {h : am_H} {a b c d : am_C} (hl : 12 < h.length) : (n4 h a b c d)[12]? = some d := by
  unfold n4
  rw [List.getElem?_set_self (by rw [List.length_set, List.length_set, List.length_set]; omega)]
theorem n4_o {h : am_H} {a b c d : am_C} {k : Nat} (h9 : 9 ≠ k) (h10 : 10 ≠ k) (h11 : 11 ≠ k) (h12 : 12 ≠ k) : (n4 h a b c d)[k]? = h[k]? := by
  unfold n4
  rw [List.getElem?_set_ne h12, List.getElem?_set_ne h11, List.getElem?_set_ne h10, List.getElem?_set_ne h9]
theorem n4_id {h : am_H} {a b c d : am_C} (h9 : h[9]? = some a) (h10 : h[10]? = some b) (h11 : h[11]? = some c) (h12 : h[12]? = some d) : n4 h a b c d = h := by
  unfold n4
  rw [gs_id h9, gs_id h10, gs_id h11, gs_id h12]
theorem n4_n4 {h : am_H} {a b c d a' b' c' d' : am_C} : n4 (n4 h a b c d) a' b' c' d' = n4 h a' b' c' d' := by
  show ((((n4 h a b c d).set 9 a').set 10 b').set 11 c').set 12 d' = _
  rw [n4_s9, n4_s10, n4_s11, n4_s12]
/-- transitions t < T of marking m: a bit of its set, and where it leads -/
def rowOK (T sz e : Nat) (ff : Nat → Int32) (m : Nat) : Prop := e < 2 ^ T ∧ ∀ t, t < T → (e.testBit t = false ∧ ff (m * 10 + t) = -1) ∨ (e.testBit t = true ∧ ∃ k, k < sz ∧ ff (m * 10 + t) = nI k)
theorem rowOK.mono {T sz sz' e m : Nat} {ff : Nat → Int32} (h : rowOK T sz e ff m) (hs : sz ≤ sz') : rowOK T sz' e ff m :=
  ⟨h.1, fun t ht => (h.2 t ht).imp id fun q => ⟨q.1, q.2.imp fun k z => ⟨by omega, z.2⟩⟩⟩
theorem rowOK.put {T sz e m : Nat} {ff : Nat → Int32} (h : rowOK T sz e ff m) {x : Int32} {e' : Nat} (hx : (e' = e ∧ x = -1) ∨ (e' = e ||| 2 ^ T ∧ ∃ k, k < sz ∧ x = nI k)) : rowOK (T + 1) sz e' (upd ff (m * 10 + T) x) m := by
  have h2 : e < 2 ^ T := h.1
  have hp : 2 ^ T < 2 ^ (T + 1) := Nat.pow_lt_pow_right (by decide) (by omega)
  have hbT : e.testBit T = false := Nat.testBit_lt_two_pow h2
  refine ⟨?_, fun t ht => ?_⟩
  · rcases hx with ⟨rfl, -⟩ | ⟨rfl, -⟩
    · omega
    · exact Nat.or_lt_two_pow (by omega) hp
  · by_cases q : t = T
    · subst q
      have hu : upd ff (m * 10 + t) x (m * 10 + t) = x := pk_us
      rw [hu]
      rcases hx with ⟨rfl, h3⟩ | ⟨rfl, h3⟩
      · exact Or.inl ⟨hbT, h3⟩
      · refine Or.inr ⟨?_, h3⟩
        rw [Nat.testBit_or, Nat.testBit_two_pow_self]
        simp
    · have hu : upd ff (m * 10 + T) x (m * 10 + t) = ff (m * 10 + t) := pk_un (by omega)
      rw [hu]
      have hb : e'.testBit t = e.testBit t := by
        rcases hx with ⟨rfl, -⟩ | ⟨rfl, -⟩
        · rfl
        · rw [Nat.testBit_or, Nat.testBit_two_pow_of_ne (by omega)]
          simp
      rw [hb]
      exact h.2 t (by omega)
def faPost (h : am_H) (T q sz : Nat) (ex la : Int32) (ge gf : Nat → Int32) : Option Value → am_H → Prop := fun v h' => ∃ r s gc' ge' gf', v = some (.int r) ∧ h' = n4 h (c_MG ex (nI s) la) (ia 200 gc') (ia 200 ge') (ia 2000 gf') ∧ sz ≤ s ∧ s ≤ 200 ∧
  (r = 0 ∨ (r = 1 ∧ (∀ i, i ≠ q → ge' i = ge i) ∧ (∀ i, (i < q * 10 ∨ q * 10 + T ≤ i) → gf' i = gf i) ∧ (∃ e, ge' q = nI e ∧ rowOK T s e gf' q) ∧ ∀ k, sz ≤ k → k < s → ∃ t, t < T ∧ gf' (q * 10 + t) = nI k))
set_option maxRecDepth 100000 in
set_option maxHeartbeats 4000000 in
theorem ct_MG_followAll (h : am_H) (P T q sz : Nat) (ex la : Int32) (gi go gc ge gf : Nat → Int32) (hl : 12 < h.length) (hP : P ≤ 8) (hT : T ≤ 10) (h2 : h[2]? = some (c_NT (nI P) (nI T))) (h5 : h[5]? = some (ia 10 gi)) (h6 : h[6]? = some (ia 10 go))
    (h9 : h[9]? = some (c_MG ex (nI sz) la)) (h10 : h[10]? = some (ia 200 gc)) (h11 : h[11]? = some (ia 200 ge)) (h12 : h[12]? = some (ia 2000 gf)) (hq : q < sz) (hs : sz ≤ 200) : am_Ct am_G0 m_MG_followAll 2 0 0 [.ref 9, .int (nI q)] h (faPost h T q sz ex la ge gf) := by
  refine am_Ct.of (E := E_MG_followAll) e_MG_followAll (by decide) (Nat.le_of_ble_eq_true rfl) ?_
  have L : ∀ d t s gc' ge' gf' e (l3 l4 : Option Value), t + d = T → sz ≤ s → s ≤ 200 → (∀ i, i ≠ q → ge' i = ge i) → (∀ i, (i < q * 10 ∨ q * 10 + T ≤ i) → gf' i = gf i) → ge' q = nI e → rowOK t s e gf' q → (∀ k, sz ≤ k → k < s → ∃ t', t' < t ∧ gf' (q * 10 + t') = nI k) →
      am_B E_MG_followAll (am_rm 2 0 0) (am_ZM E_MG_followAll 0 0 (faPost h T q sz ex la ge gf)) 9 [some (.ref 9), some (.int (nI q)), some (.int (nI t)), l3, l4] [] (n4 h (c_MG ex (nI s) la) (ia 200 gc') (ia 200 ge') (ia 2000 gf')) 0 0 := by
    intro d
    induction d with
    | zero =>
      intro t s gc' ge' gf' e l3 l4 ht i1 i2 i3 i4 i5 i6 i7
      obtain rfl : t = T := by omega
      have g9 : (n4 h (c_MG ex (nI s) la) (ia 200 gc') (ia 200 ge') (ia 2000 gf'))[9]? = some (c_MG ex (nI s) la) := n4_9 hl
      have g2 : (n4 h (c_MG ex (nI s) la) (ia 200 gc') (ia 200 ge') (ia 2000 gf'))[2]? = some (c_NT (nI P) (nI t)) := (n4_o (by decide) (by decide) (by decide) (by decide)).trans h2
      refine am_B.run (hp := false) (sp := []) 200 rfl ?_
      refine am_B.get rfl rfl rfl (by first | assumption | exact gs_s (by first | assumption | exact gs_s (by first | assumption | exact gs_s (by assumption) | (refine gs_n (by decide) ?_; assumption)) | (refine gs_n (by decide) ?_; first | assumption | exact gs_s (by assumption) | (refine gs_n (by decide) ?_; assumption))) | (refine gs_n (by decide) ?_; first | assumption | exact gs_s (by first | assumption | exact gs_s (by assumption) | (refine gs_n (by decide) ?_; assumption)) | (refine gs_n (by decide) ?_; first | assumption | exact gs_s (by assumption) | (refine gs_n (by decide) ?_; assumption)))) rfl rfl ?_
      refine am_B.run (hp := false) (sp := []) 200 rfl ?_
      refine am_B.get rfl rfl rfl (by first | assumption | exact gs_s (by first | assumption | exact gs_s (by first | assumption | exact gs_s (by assumption) | (refine gs_n (by decide) ?_; assumption)) | (refine gs_n (by decide) ?_; first | assumption | exact gs_s (by assumption) | (refine gs_n (by decide) ?_; assumption))) | (refine gs_n (by decide) ?_; first | assumption | exact gs_s (by first | assumption | exact gs_s (by assumption) | (refine gs_n (by decide) ?_; assumption)) | (refine gs_n (by decide) ?_; first | assumption | exact gs_s (by assumption) | (refine gs_n (by decide) ?_; assumption)))) rfl rfl ?_
      refine am_B.run (hp := false) (sp := []) 200 rfl ?_
      refine am_B.icmp_ge rfl rfl (fun _ => ?_) (fun z => absurd (nI_le (by omega) (by omega)) z)
      refine am_B.run (hp := false) (sp := []) 200 rfl ?_
      exact am_B.zret rfl rfl rfl rfl ⟨_, s, gc', ge', gf', rfl, rfl, i1, i2, Or.inr ⟨rfl, i3, i4, ⟨e, i5, i6⟩, i7⟩⟩
    | succ d ih =>
      intro t s gc' ge' gf' e l3 l4 ht i1 i2 i3 i4 i5 i6 i7
      have g9 : (n4 h (c_MG ex (nI s) la) (ia 200 gc') (ia 200 ge') (ia 2000 gf'))[9]? = some (c_MG ex (nI s) la) := n4_9 hl
      have g10 : (n4 h (c_MG ex (nI s) la) (ia 200 gc') (ia 200 ge') (ia 2000 gf'))[10]? = some (ia 200 gc') := n4_10 hl
      have g2 : (n4 h (c_MG ex (nI s) la) (ia 200 gc') (ia 200 ge') (ia 2000 gf'))[2]? = some (c_NT (nI P) (nI T)) := (n4_o (by decide) (by decide) (by decide) (by decide)).trans h2
      have g5 : (n4 h (c_MG ex (nI s) la) (ia 200 gc') (ia 200 ge') (ia 2000 gf'))[5]? = some (ia 10 gi) := (n4_o (by decide) (by decide) (by decide) (by decide)).trans h5
      have g6 : (n4 h (c_MG ex (nI s) la) (ia 200 gc') (ia 200 ge') (ia 2000 gf'))[6]? = some (ia 10 go) := (n4_o (by decide) (by decide) (by decide) (by decide)).trans h6
      have htT : t < 10 := by omega
      have hq2 : q < 200 := by omega
      -- the last lines of the body, for whatever number
      have J70 : ∀ (x : Int32) (s' e' : Nat) (gc2 ge2 : Nat → Int32) (l3 : Int32), s ≤ s' → s' ≤ 200 → (∀ i, i ≠ q → ge2 i = ge i) → ge2 q = nI e' → ((e' = e ∧ x = -1) ∨ (e' = e ||| 2 ^ t ∧ ∃ k, k < s' ∧ x = nI k)) → (∀ k, s ≤ k → k < s' → x = nI k) →
          am_B E_MG_followAll (am_rm 2 0 0) (am_ZM E_MG_followAll 0 0 (faPost h T q sz ex la ge gf)) 70 [some (.ref 9), some (.int (nI q)), some (.int (nI t)), some (.int l3), some (.int x)] [] (n4 h (c_MG ex (nI s') la) (ia 200 gc2) (ia 200 ge2) (ia 2000 gf')) 0 0 := by
        intro x s' e' gc2 ge2 l3 j1 j2 j3 j4 j5 j6
        have g9 : (n4 h (c_MG ex (nI s') la) (ia 200 gc2) (ia 200 ge2) (ia 2000 gf'))[9]? = some (c_MG ex (nI s') la) := n4_9 hl
        have g12 : (n4 h (c_MG ex (nI s') la) (ia 200 gc2) (ia 200 ge2) (ia 2000 gf'))[12]? = some (ia 2000 gf') := n4_12 hl
        refine am_B.run (hp := false) (sp := []) 200 rfl ?_
        refine am_B.get rfl rfl rfl (by first | assumption | exact gs_s (by first | assumption | exact gs_s (by first | assumption | exact gs_s (by assumption) | (refine gs_n (by decide) ?_; assumption)) | (refine gs_n (by decide) ?_; first | assumption | exact gs_s (by assumption) | (refine gs_n (by decide) ?_; assumption))) | (refine gs_n (by decide) ?_; first | assumption | exact gs_s (by first | assumption | exact gs_s (by assumption) | (refine gs_n (by decide) ?_; assumption)) | (refine gs_n (by decide) ?_; first | assumption | exact gs_s (by assumption) | (refine gs_n (by decide) ?_; assumption)))) rfl rfl ?_
        refine am_B.run (hp := false) (sp := []) 200 rfl ?_
        rw [pk_mul, nI_add]
        refine am_B.ast rfl g12 (vp_n (show q * 10 + t < 2000 by omega) rfl) rfl ?_
        rw [nI_clamp (show q * 10 + t < 2 ^ 31 by omega), n4_s12]
        refine am_B.run (hp := false) (sp := [9]) 200 rfl ?_
        rw [nI_add]
        refine ih (t + 1) s' gc2 ge2 _ e' _ _ (by omega) (by omega) j2 j3 (fun i hi => ?_) j4 ((i6.mono j1).put j5) (fun k k1 k2 => ?_)
        · rw [pk_un (by omega)]
          exact i4 i hi
        · rcases Nat.lt_or_ge k s with z | z
          · obtain ⟨t', z1, z2⟩ := i7 k k1 z
            exact ⟨t', by omega, by rw [pk_un (by omega)]; exact z2⟩
          · exact ⟨t, by omega, by rw [pk_us]; exact j6 k z k2⟩
      refine am_B.run (hp := false) (sp := []) 200 rfl ?_
      refine am_B.get rfl rfl rfl (by first | assumption | exact gs_s (by first | assumption | exact gs_s (by first | assumption | exact gs_s (by assumption) | (refine gs_n (by decide) ?_; assumption)) | (refine gs_n (by decide) ?_; first | assumption | exact gs_s (by assumption) | (refine gs_n (by decide) ?_; assumption))) | (refine gs_n (by decide) ?_; first | assumption | exact gs_s (by first | assumption | exact gs_s (by assumption) | (refine gs_n (by decide) ?_; assumption)) | (refine gs_n (by decide) ?_; first | assumption | exact gs_s (by assumption) | (refine gs_n (by decide) ?_; assumption)))) rfl rfl ?_
      refine am_B.run (hp := false) (sp := []) 200 rfl ?_
      refine am_B.get rfl rfl rfl (by first | assumption | exact gs_s (by first | assumption | exact gs_s (by first | assumption | exact gs_s (by assumption) | (refine gs_n (by decide) ?_; assumption)) | (refine gs_n (by decide) ?_; first | assumption | exact gs_s (by assumption) | (refine gs_n (by decide) ?_; assumption))) | (refine gs_n (by decide) ?_; first | assumption | exact gs_s (by first | assumption | exact gs_s (by assumption) | (refine gs_n (by decide) ?_; assumption)) | (refine gs_n (by decide) ?_; first | assumption | exact gs_s (by assumption) | (refine gs_n (by decide) ?_; assumption)))) rfl rfl ?_
      refine am_B.run (hp := false) (sp := []) 200 rfl ?_
      refine am_B.icmp_ge rfl rfl (fun z => absurd z (nI_ge (by omega) (by omega))) (fun _ => ?_)
      refine am_B.run (hp := false) (sp := []) 200 rfl ?_
      refine am_B.get rfl rfl rfl (by first | assumption | exact gs_s (by first | assumption | exact gs_s (by first | assumption | exact gs_s (by assumption) | (refine gs_n (by decide) ?_; assumption)) | (refine gs_n (by decide) ?_; first | assumption | exact gs_s (by assumption) | (refine gs_n (by decide) ?_; assumption))) | (refine gs_n (by decide) ?_; first | assumption | exact gs_s (by first | assumption | exact gs_s (by assumption) | (refine gs_n (by decide) ?_; assumption)) | (refine gs_n (by decide) ?_; first | assumption | exact gs_s (by assumption) | (refine gs_n (by decide) ?_; assumption)))) rfl rfl ?_
      refine am_B.run (hp := false) (sp := []) 200 rfl ?_
      refine am_B.get rfl rfl rfl (by first | assumption | exact gs_s (by first | assumption | exact gs_s (by first | assumption | exact gs_s (by assumption) | (refine gs_n (by decide) ?_; assumption)) | (refine gs_n (by decide) ?_; first | assumption | exact gs_s (by assumption) | (refine gs_n (by decide) ?_; assumption))) | (refine gs_n (by decide) ?_; first | assumption | exact gs_s (by first | assumption | exact gs_s (by assumption) | (refine gs_n (by decide) ?_; assumption)) | (refine gs_n (by decide) ?_; first | assumption | exact gs_s (by assumption) | (refine gs_n (by decide) ?_; assumption)))) rfl rfl ?_
      refine am_B.run (hp := false) (sp := []) 200 rfl ?_
      refine am_B.ald rfl g10 (vp_n hq2 rfl) rfl ?_
      refine am_B.run (hp := false) (sp := []) 200 rfl ?_
      refine am_B.callV (ci := 1) (n := 2) (as := [.int _, .int (nI t)]) rfl rfl rfl (ct_NT_codeBehind _ P t (nI T) _ gi go hP htT g2 g5 g6) rfl rfl (by exact Nat.le_of_ble_eq_true rfl) rfl g2 rfl rfl (fun v h' z => ?_)
      obtain ⟨rfl, r, rfl⟩ := z
      refine am_B.run (hp := false) (sp := []) 200 rfl ?_
      refine am_B.icmp_eq rfl rfl (fun _ => ?_) (fun _ => ?_)
      · exact J70 _ s e gc' ge' r (Nat.le_refl _) i2 i3 i5 (Or.inl ⟨rfl, rfl⟩) (fun k k1 k2 => absurd k1 (by omega))
      · refine am_B.run (hp := false) (sp := []) 200 rfl ?_
        refine am_B.callV (ci := 2) (n := 1) (as := [.int r]) rfl rfl rfl (ct_MG_numberOrAppend _ s ex la r gc' i2 g9 g10) rfl rfl (by exact Nat.le_of_ble_eq_true rfl) rfl g9 rfl rfl (fun v h' z => ?_)
        obtain ⟨x, s', gc2, rfl, rfl, k1, k2⟩ := z
        rw [n4_s10, n4_s9]
        refine am_B.run (hp := false) (sp := []) 200 rfl ?_
        refine am_B.icmp_ne rfl rfl (fun hne => ?_) (fun he => ?_)
        · have kk := k2.resolve_left (fun z => hne z.1)
          clear k2
          obtain ⟨k, rfl, k3⟩ := kk
          have g9 : (n4 h (c_MG ex (nI s') la) (ia 200 gc2) (ia 200 ge') (ia 2000 gf'))[9]? = some (c_MG ex (nI s') la) := n4_9 hl
          have g11 : (n4 h (c_MG ex (nI s') la) (ia 200 gc2) (ia 200 ge') (ia 2000 gf'))[11]? = some (ia 200 ge') := n4_11 hl
          refine am_B.run (hp := false) (sp := []) 200 rfl ?_
          refine am_B.get rfl rfl rfl (by first | assumption | exact gs_s (by first | assumption | exact gs_s (by first | assumption | exact gs_s (by assumption) | (refine gs_n (by decide) ?_; assumption)) | (refine gs_n (by decide) ?_; first | assumption | exact gs_s (by assumption) | (refine gs_n (by decide) ?_; assumption))) | (refine gs_n (by decide) ?_; first | assumption | exact gs_s (by first | assumption | exact gs_s (by assumption) | (refine gs_n (by decide) ?_; assumption)) | (refine gs_n (by decide) ?_; first | assumption | exact gs_s (by assumption) | (refine gs_n (by decide) ?_; assumption)))) rfl rfl ?_
          refine am_B.run (hp := false) (sp := []) 200 rfl ?_
          refine am_B.ald rfl g11 (vp_n hq2 rfl) rfl ?_
          rw [nI_clamp (show q < 2 ^ 31 by omega), i5]
          refine am_B.run (hp := false) (sp := []) 200 rfl ?_
          rw [shl1 t htT, fa_or]
          refine am_B.ast rfl g11 (vp_n hq2 rfl) rfl ?_
          rw [nI_clamp (show q < 2 ^ 31 by omega), n4_s11]
          refine J70 _ s' (e ||| 2 ^ t) gc2 _ r (by omega) k1 (fun i hi => ?_) pk_us (Or.inr ⟨rfl, k, by omega, rfl⟩) (fun k' z1 z2 => ?_)
          · rw [pk_un hi]
            exact i3 i hi
          · have z3 : k' = k := by omega
            rw [z3]
        · refine am_B.run (hp := false) (sp := []) 200 rfl ?_
          exact am_B.zret rfl rfl rfl rfl ⟨_, s', gc2, ge', gf', rfl, rfl, by omega, k1, Or.inl rfl⟩
  refine am_B.run (hp := false) (sp := []) 200 rfl ?_
  refine am_B.get rfl rfl rfl (by first | assumption | exact gs_s (by first | assumption | exact gs_s (by first | assumption | exact gs_s (by assumption) | (refine gs_n (by decide) ?_; assumption)) | (refine gs_n (by decide) ?_; first | assumption | exact gs_s (by assumption) | (refine gs_n (by decide) ?_; assumption))) | (refine gs_n (by decide) ?_; first | assumption | exact gs_s (by first | assumption | exact gs_s (by assumption) | (refine gs_n (by decide) ?_; assumption)) | (refine gs_n (by decide) ?_; first | assumption | exact gs_s (by assumption) | (refine gs_n (by decide) ?_; assumption)))) rfl rfl ?_
  refine am_B.run (hp := false) (sp := []) 200 rfl ?_
  refine am_B.ast rfl h11 (vp_n (show q < 200 by omega) rfl) rfl ?_
  rw [nI_clamp (show q < 2 ^ 31 by omega)]
  refine am_B.run (hp := false) (sp := [9]) 200 rfl ?_
  have e0 : h.set 11 (ia 200 (upd ge q (nI 0))) = n4 h (c_MG ex (nI sz) la) (ia 200 gc) (ia 200 (upd ge q (nI 0))) (ia 2000 gf) := by
    unfold n4
    rw [gs_id h9, gs_id h10]
    refine (gs_id ?_).symm
    exact gs_n (by decide) h12
  show am_B _ _ _ _ _ _ (h.set 11 (ia 200 (upd ge q (nI 0)))) _ _
  rw [e0]
  refine L T 0 sz gc _ gf 0 _ _ (by omega) (Nat.le_refl _) hs (fun i hi => pk_un hi) (fun i _ => rfl) pk_us ⟨by decide, fun t ht => absurd ht (by omega)⟩ (fun k k1 k2 => absurd k1 (by omega))
