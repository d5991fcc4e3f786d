/-! THE LAW PLAYS a trace of its own -/
def PI (h : am_H) (sc : am_C) (many n T P : Nat) (la : Int32) (gl gf gco ge rws cnt lbm : Nat → Int32) (szm tmm : Int32) (size : Nat) (gb : Nat → Int32) : Prop :=
  53 ≤ h.length ∧ h[0]? = some sc ∧ h[1]? = some (c_TA (nI size) (nI many)) ∧ h[4]? = some (ia 10 gco) ∧ h[11]? = some (ia 200 ge) ∧ (∃ g, h[15]? = some (ia 10 g)) ∧ rowsOK h ∧ h[26]? = some (ia 8 gb) ∧ h[27]? = some (ra 4 8 ts_) ∧ h[53]? = some (ia 2 cnt) ∧ h[54]? = some (ia 40 rws) ∧
  pfW h n T (nI P) (nI 1) la gl gf lc0 ∧ h[29 + 3 * many]? = some (ia 8 lbm) ∧ h[28 + 3 * many]? = some (c_TR many szm tmm (nI 0) 0 0 0 (30 + 3 * many)) ∧ h[30 + 3 * many]? = some (z_ 16)
section PLAY
variable {nm : String} {h : am_H} {sc : am_C} {many n T P rc rs : Nat} {la szm tmm : Int32} {gl gf gco ge rws cnt lbm gb : Nat → Int32} {co : Nat → Nat}
theorem PI.ev {size : Nat} (I : PI h sc many n T P la gl gf gco ge rws cnt lbm szm tmm size gb) (g' : Nat → Int32) (s' : Nat) : PI ((h.set 26 (ia 8 g')).set 1 (c_TA (nI s') (nI many))) sc many n T P la gl gf gco ge rws cnt lbm szm tmm s' g' := by
  obtain ⟨i0, i1, i2, i3, i4, i5, i6, i7, i8, i9, i10, W, i12, i13, i14⟩ := I
  have k : ∀ a x, a ≠ 1 → a ≠ 26 → h[a]? = some x → ((h.set 26 (ia 8 g')).set 1 (c_TA (nI s') (nI many)))[a]? = some x := fun a x n1 n2 hx => gs_n (Ne.symm n1) (gs_n (Ne.symm n2) hx)
  obtain ⟨w2, w3, w9, w12, w13, w14, w16⟩ := W
  refine ⟨by rw [List.length_set, List.length_set]; exact i0, k _ _ (by decide) (by decide) i1, gs_s (gs_n (by decide) i2), k _ _ (by decide) (by decide) i3, k _ _ (by decide) (by decide) i4, i5.imp fun g z => k _ _ (by decide) (by decide) z, fun j hj => (i6 j hj).imp fun g z => k _ _ (by omega) (by omega) z, gs_n (by decide) (gs_s i7), k _ _ (by decide) (by decide) i8, k _ _ (by decide) (by decide) i9, k _ _ (by decide) (by decide) i10,
    ⟨k _ _ (by decide) (by decide) w2, k _ _ (by decide) (by decide) w3, k _ _ (by decide) (by decide) w9, k _ _ (by decide) (by decide) w12, k _ _ (by decide) (by decide) w13, k _ _ (by decide) (by decide) w14, k _ _ (by decide) (by decide) w16⟩, k _ _ (by omega) (by omega) i12, k _ _ (by omega) (by omega) i13, k _ _ (by omega) (by omega) i14⟩
set_option maxRecDepth 100000 in
set_option maxHeartbeats 4000000 in
theorem lw_play {L ce : Nat} {xs : Nat → Int32} (hsc : sc = .inl (99, L, .inl xs)) (hL : L < 2 ^ 31) (hm : many ≤ 3) (hn : n ≤ 200) (hT : T ≤ 6) (hc1 : cnt 1 = nI T) (N : netOK n T gl gf ge rws gco co)
    (K : ∀ h at_ size sil st gb, PI h sc many n T P la gl gf gco ge rws cnt lbm szm tmm size gb → at_ < n → size ≤ 8 → sil ≤ 9 * st → st ≤ 12 → (∀ i, i < size → ∃ l, l < 3 ∧ gb i = nI l) → (∀ l, la = nI l → played n T l gl gf lc0 co gb size at_ sil st) → ∀ l10 l11 l12 l13 : Option Value,
      lB nm 573 [some (.ref 0), some (.ref 1), some (.ref 53), some (.ref 54), some (.ref 55), some (.int (nI many)), some (.int (nI ce)), some (.int (nI at_)), some (.int (nI sil)), some (.int (nI size)), l10, l11, l12, l13] [] h rc rs) :
    ∀ d st, st + d = 12 → ∀ h at_ size sil gb, PI h sc many n T P la gl gf gco ge rws cnt lbm szm tmm size gb → at_ < n → size ≤ 8 → sil ≤ 9 * st → (∀ i, i < size → ∃ l, l < 3 ∧ gb i = nI l) → (∀ l, la = nI l → played n T l gl gf lc0 co gb size at_ sil st) → ∀ l11 l12 l13 : Option Value,
      lB nm 427 [some (.ref 0), some (.ref 1), some (.ref 53), some (.ref 54), some (.ref 55), some (.int (nI many)), some (.int (nI ce)), some (.int (nI at_)), some (.int (nI sil)), some (.int (nI size)), some (.int (nI st)), l11, l12, l13] [] h rc rs := by
  intro d
  induction d with
  | zero =>
    intro st hst h at_ size sil gb I ha hs hsil hlab hpl l11 l12 l13
    obtain rfl : st = 12 := by omega
    refine am_B.run (hp := false) (sp := []) 200 rfl ?_
    refine am_B.icmp_ge rfl rfl (fun _ => K h at_ size sil 12 gb I ha hs hsil (by omega) hlab hpl _ _ _ _) (fun z => absurd (by decide) z)
  | succ d ih =>
    intro st hst h at_ size sil gb I ha hs hsil hlab hpl l11 l12 l13
    have I0 := I
    obtain ⟨i0, i1, i2, i3, i4, i5, i6, i7, i8, i9, i10, W, i12, i13, i14⟩ := I
    obtain ⟨e, m1, m2⟩ := N.2 at_ ha
    have he : e < 2 ^ 10 := Nat.lt_of_lt_of_le m2.1 (Nat.pow_le_pow_right (by decide) (by omega))
    have he6 : e < 64 := Nat.lt_of_lt_of_le m2.1 (show 2 ^ T ≤ 2 ^ 6 from Nat.pow_le_pow_right (by decide) hT)
    have w2 := W.1
    have w9 := W.2.2.1
    have w12 := W.2.2.2.1
    refine am_B.run (hp := false) (sp := []) 200 rfl ?_
    refine am_B.icmp_ge rfl rfl (fun z => absurd z (nI_ge (show st < 12 by omega) (by omega))) (fun _ => ?_)
    refine am_B.run (hp := false) (sp := []) 200 rfl ?_
    refine am_B.callV (ci := 0) (n := 0) (as := []) rfl rfl rfl (ct_TA_last h n (nI size) (nI many) la (by omega) i2 w9) rfl rfl (by exact Nat.le_of_ble_eq_true rfl) rfl i2 rfl rfl (fun v h' z => ?_)
    obtain ⟨rfl, rfl⟩ := z
    refine am_B.icmp_eq rfl rfl (fun _ => K _ at_ size sil st gb I0 ha hs hsil (by omega) hlab hpl _ _ _ _) (fun hne => ?_)
    refine am_B.run (hp := false) (sp := []) 200 rfl ?_
    refine am_B.icmp_ge rfl rfl (fun _ => K _ at_ size sil st gb I0 ha hs hsil (by omega) hlab hpl _ _ _ _) (fun hs8 => ?_)
    have hs7 : size < 8 := by
      rcases Nat.lt_or_ge size 8 with q | q
      · exact q
      · exact absurd (nI_le q (by omega)) hs8
    refine am_B.run (hp := false) (sp := []) 200 rfl ?_
    refine am_B.callS (n := 2) (as := [.ref 0, .int (nI 13)]) rfl rfl rfl (ct_LW_cell 0 _ L 13 xs hL (by omega) (by rw [i1, hsc])) rfl rfl (by exact Nat.le_of_ble_eq_true rfl) rfl rfl rfl (fun v h'' z => ?_)
    obtain ⟨rfl, x, rfl⟩ := z
    refine am_B.run (hp := false) (sp := []) 200 rfl ?_
    refine am_B.callS (n := 2) (as := [.int _, .int (nI 10)]) rfl rfl rfl (ct_LW_below 0 _ _ 10 (by decide) (by decide)) rfl rfl (by exact Nat.le_of_ble_eq_true rfl) rfl rfl rfl (fun v h3 z => ?_)
    obtain ⟨rfl, t, ht10, rfl⟩ := z
    have J567 : ∀ h at_ size sil gb, PI h sc many n T P la gl gf gco ge rws cnt lbm szm tmm size gb → at_ < n → size ≤ 8 → sil ≤ 9 * (st + 1) → (∀ i, i < size → ∃ l, l < 3 ∧ gb i = nI l) → (∀ l, la = nI l → played n T l gl gf lc0 co gb size at_ sil (st + 1)) → ∀ l11 l12 l13 : Option Value,
        lB nm 567 [some (.ref 0), some (.ref 1), some (.ref 53), some (.ref 54), some (.ref 55), some (.int (nI many)), some (.int (nI ce)), some (.int (nI at_)), some (.int (nI sil)), some (.int (nI size)), some (.int (nI st)), l11, l12, l13] [] h rc rs := by
      intro h at_ size sil gb I ha hs hsil hlab hpl l11 l12 l13
      refine am_B.run (hp := false) (sp := [427]) 200 rfl ?_
      rw [nI_add st 1]
      exact ih (st + 1) (by omega) h at_ size sil gb I ha hs hsil hlab hpl _ _ _
    have J501 : ∀ t, t < 33 → (t < T → e.testBit t = true) → ∀ l12 l13 : Option Value,
        lB nm 501 [some (.ref 0), some (.ref 1), some (.ref 53), some (.ref 54), some (.ref 55), some (.int (nI many)), some (.int (nI ce)), some (.int (nI at_)), some (.int (nI sil)), some (.int (nI size)), some (.int (nI st)), some (.int (nI t)), l12, l13] [] h3 rc rs := by
      intro t ht33 hbit l12 l13
      refine am_B.run (hp := false) (sp := []) 200 rfl ?_
      refine am_B.ald rfl i9 (vp_n (show 1 < 2 by decide) rfl) rfl ?_
      rw [nI_clamp (show 1 < 2 ^ 31 by decide), hc1]
      refine am_B.icmp_lt rfl rfl (fun z => ?_) (fun _ => ?_)
      · have ht : t < T := by
          rcases Nat.lt_or_ge t T with q | q
          · exact q
          · exact absurd z (nI_nlt q (by omega))
        obtain ⟨n1, n2, n3, n4, n5⟩ := N.1 t ht
        obtain ⟨k, hk, hgf⟩ : ∃ k, k < n ∧ gf (at_ * 10 + t) = nI k := by
          rcases m2.2 t ht with ⟨q, -⟩ | ⟨-, q⟩
          · rw [hbit ht] at q
            cases q
          · exact q
        have hEd : Ed n T gf at_ t k := ⟨ht, hk, hgf⟩
        refine am_B.run (hp := false) (sp := []) 200 rfl ?_
        refine am_B.callV (ci := 0) (n := 2) (as := [.int (nI at_), .int (nI t)]) rfl rfl rfl (ct_TA_next h3 n T at_ t (nI size) (nI many) la (nI P) gf hn (by omega) ha ht i2 w2 w9 w12) rfl rfl (by exact Nat.le_of_ble_eq_true rfl) rfl i2 rfl rfl (fun v h4 z => ?_)
        obtain ⟨rfl, rfl⟩ := z
        rw [hgf]
        refine am_B.run (hp := false) (sp := []) 200 rfl ?_
        rw [pk_mul]
        refine am_B.ald rfl i10 (vp_n (show 4 * t < 40 by omega) rfl) rfl ?_
        rw [nI_clamp (show 4 * t < 2 ^ 31 by omega), n2]
        rcases n5 with q | ⟨lb, hlb, q⟩
        · rw [q]
          refine am_B.if_ge rfl rfl (fun z => absurd z (by decide)) (fun _ => ?_)
          refine am_B.run (hp := false) (sp := []) 200 rfl ?_
          rw [pk_mul, nI_add]
          refine am_B.ald rfl i10 (vp_n (show 4 * t + 1 < 40 by omega) rfl) rfl ?_
          rw [nI_clamp (show 4 * t + 1 < 2 ^ 31 by omega), n3]
          refine am_B.run (hp := false) (sp := [567]) 200 rfl ?_
          rw [nI_add sil (co t)]
          exact J567 h4 k size (sil + co t) gb I0 hk hs (by omega) hlab (fun l hl => (hpl l hl).silent ha hEd) _ _ _
        · rw [q]
          refine am_B.if_ge rfl rfl (fun _ => ?_) (fun z => absurd (nI_le (Nat.zero_le lb) (by omega)) z)
          refine am_B.run (hp := false) (sp := []) 200 rfl ?_
          rw [pk_mul]
          refine am_B.ald rfl i10 (vp_n (show 4 * t < 40 by omega) rfl) rfl ?_
          rw [nI_clamp (show 4 * t < 2 ^ 31 by omega), n2, q]
          refine am_B.callV (ci := 0) (n := 1) (as := [.int (nI lb)]) rfl rfl rfl (ct_TA_event h4 lb size (nI many) gb (by omega) hs7 i2 i7) rfl rfl (by exact Nat.le_of_ble_eq_true rfl) rfl i2 rfl rfl (fun v h5 z => ?_)
          obtain ⟨rfl, rfl⟩ := z
          refine am_B.run (hp := false) (sp := []) 200 rfl ?_
          rw [nI_add size 1]
          refine am_B.icmp_eq rfl rfl (fun _ => ?_) (fun z => absurd rfl z)
          refine J567 _ k (size + 1) sil _ (I0.ev _ (size + 1)) hk (by omega) (by omega) (fun i hi => ?_) (fun l hl => ?_) _ _ _
          · by_cases z : i = size
            · subst z
              exact ⟨lb, hlb, upd_s⟩
            · rw [upd_n z]
              exact hlab i (by omega)
          · have := (hpl l hl).label ha hEd
            rwa [q] at this
      · refine am_B.run (hp := false) (sp := [573]) 200 rfl ?_
        exact K _ at_ size sil st gb I0 ha hs hsil (by omega) hlab hpl _ _ _ _
    have J490 : ∀ l11 l12 l13 : Option Value,
        lB nm 490 [some (.ref 0), some (.ref 1), some (.ref 53), some (.ref 54), some (.ref 55), some (.int (nI many)), some (.int (nI ce)), some (.int (nI at_)), some (.int (nI sil)), some (.int (nI size)), some (.int (nI st)), l11, l12, l13] [] h3 rc rs := by
      intro l11 l12 l13
      refine am_B.run (hp := false) (sp := []) 200 rfl ?_
      refine am_B.callV (ci := 0) (n := 1) (as := [.int (nI at_)]) rfl rfl rfl (ct_TA_enabled h3 n at_ (nI size) (nI many) la ge hn ha i2 w9 i4) rfl rfl (by exact Nat.le_of_ble_eq_true rfl) rfl i2 rfl rfl (fun v h4 z => ?_)
      obtain ⟨rfl, rfl⟩ := z
      rw [m1]
      refine am_B.callS (n := 1) (as := [.int (nI e)]) rfl rfl rfl (ct_IN_ntz 0 _ e he6) rfl rfl (by exact Nat.le_of_ble_eq_true rfl) rfl rfl rfl (fun v h5 z => ?_)
      obtain ⟨rfl, ⟨-, rfl⟩ | ⟨t', ht', hb', rfl⟩⟩ := z
      · refine am_B.run (hp := false) (sp := [501]) 200 rfl ?_
        exact J501 32 (by decide) (fun q => absurd q (by omega)) _ _
      · refine am_B.run (hp := false) (sp := [501]) 200 rfl ?_
        exact J501 t' (by omega) (fun _ => hb') _ _
    refine am_B.run (hp := false) (sp := []) 200 rfl ?_
    refine am_B.ald rfl i9 (vp_n (show 1 < 2 by decide) rfl) rfl ?_
    rw [nI_clamp (show 1 < 2 ^ 31 by decide), hc1]
    refine am_B.icmp_ge rfl rfl (fun _ => J490 _ _ _) (fun z => ?_)
    refine am_B.run (hp := false) (sp := []) 200 rfl ?_
    refine am_B.callV (ci := 0) (n := 1) (as := [.int (nI at_)]) rfl rfl rfl (ct_TA_enabled h3 n at_ (nI size) (nI many) la ge hn ha i2 w9 i4) rfl rfl (by exact Nat.le_of_ble_eq_true rfl) rfl i2 rfl rfl (fun v h4 z => ?_)
    obtain ⟨rfl, rfl⟩ := z
    rw [m1]
    refine am_B.run (hp := false) (sp := []) 200 rfl ?_
    rw [bit_q he ht10]
    by_cases hb : e.testBit t = true
    · rw [if_pos hb]
      refine am_B.if_ne rfl rfl (fun _ => ?_) (fun z => absurd z (by decide))
      exact J501 t (by omega) (fun _ => hb) _ _
    · rw [if_neg hb]
      refine am_B.if_ne rfl rfl (fun z => absurd rfl z) (fun _ => J490 _ _ _)
end PLAY
