/-! THE LAW ASKS each stored trace -/
theorem tr_inj {h : am_H} {k : Nat} {a b c d e f a' b' c' d' e' f' : Int32} {p p' : Nat} (h1 : trAt h k a b c d e f p) (h2 : trAt h k a' b' c' d' e' f' p') : d' = d ∧ e' = e ∧ f' = f := by
  have q := h1.symm.trans h2
  simp only [Option.some.injEq, Sum.inr.injEq, Prod.mk.injEq, List.cons.injEq, Value.int.injEq, true_and, and_true] at q
  exact ⟨q.2.2.2.1.symm, q.2.2.2.2.1.symm, q.2.2.2.2.2.1.symm⟩
section ASK
variable {nm : String} {sc : am_C} {many n T P : Nat} {gl gf gco ge rws cnt : Nat → Int32} {trc : Nat → Option Nat} {sz tm : Nat → Int32} {LB : Nat → Nat → Int32} {E : am_H} {co : Nat → Nat}
set_option maxRecDepth 100000 in
set_option maxHeartbeats 4000000 in
theorem lw_none (hm : many ≤ 3) (hn : n ≤ 200) (hE : ∀ j, j < many → tRow sz LB trc E j)
    (K : ∀ h, LI h sc many n T P (-1) gl gf gco ge rws cnt trc sz tm LB E many → ∀ l8 l9 l10 l11 l12 l13 : Option Value, lB nm 415 [some (.ref 0), some (.ref 1), some (.ref 53), some (.ref 54), some (.ref 55), some (.int (nI many)), some (.int (nI 0)), some (.int (nI many)), l8, l9, l10, l11, l12, l13] [] h 1 3600) :
    ∀ d k, k + d = many → ∀ h, LI h sc many n T P (-1) gl gf gco ge rws cnt trc sz tm LB E k → ∀ l8 l9 l10 l11 l12 l13 : Option Value, lB nm 90 [some (.ref 0), some (.ref 1), some (.ref 53), some (.ref 54), some (.ref 55), some (.int (nI many)), some (.int (nI 0)), some (.int (nI k)), l8, l9, l10, l11, l12, l13] [] h (d + 1) (3600 * (d + 1)) := by
  intro d
  induction d with
  | zero =>
    intro k hk h I l8 l9 l10 l11 l12 l13
    obtain rfl : k = many := by omega
    refine am_B.run (hp := false) (sp := []) 200 rfl ?_
    refine am_B.icmp_ge rfl rfl (fun _ => K h I _ _ _ _ _ _) (fun z => absurd (nI_le (Nat.le_refl _) (by omega)) z)
  | succ d ih =>
    intro k hk h I l8 l9 l10 l11 l12 l13
    have I0 := I
    obtain ⟨i0, i1, i2, i3, i4, i5, i6, i7, i8, i9, i10, i11, W, i13, i14, i15⟩ := I
    obtain ⟨nk, g, hn6, hsz, htr, hEk, hlab⟩ := hE k (by omega)
    obtain ⟨hTR, hPA⟩ := i14 k (Nat.le_refl _) (by omega)
    have W2 := W
    obtain ⟨w2, w3, w9, w12, w13, w14, w16⟩ := W2
    have o : ∀ a x, a ≠ 28 + 3 * k → h[a]? = some x → (h.set (28 + 3 * k) (c_TR k (sz k) (tm k) (nI 1) (-1) (-1) (-1) (30 + 3 * k)))[a]? = some x := fun a x ne hx => gs_n (Ne.symm ne) hx
    have A : askW h k many n 1 3600 (nI 0) (-1) (fun h' => h' = h.set (28 + 3 * k) (c_TR k (sz k) (tm k) (nI 1) (-1) (-1) (-1) (30 + 3 * k))) :=
      ⟨by omega, by omega, by omega, i2, w9, w14, i8, ct_PF_alignNone h k n T (nI P) (nI 1) gl gf lc0 (sz k) (tm k) 0 0 0 (30 + 3 * k) W hTR, fun _ e => e ▸ o _ _ (by omega) i2, fun _ e => e ▸ o _ _ (by omega) i8, fun _ e => e ▸ ⟨_, _, _, _, _, _, _, gs_s hTR⟩⟩
    refine am_B.run (hp := false) (sp := []) 200 rfl ?_
    refine am_B.icmp_ge rfl rfl (fun z => absurd z (nI_ge (by omega) (by omega))) (fun _ => ?_)
    refine am_B.run (hp := false) (sp := []) 200 rfl ?_
    refine am_B.callV (rc := d + 1) (rs := 3600 * (d + 1)) (ci := 0) (n := 1) (as := [.int (nI k)]) rfl rfl rfl (ct_TA_movesQ h k many n 1 3600 (nI 0) (-1) _ A) rfl rfl (by exact Nat.le_of_ble_eq_true rfl) rfl i2 rfl rfl (fun v h' z => ?_)
    obtain ⟨rfl, sz', tm', al', lf', wf', mf', p', hT2, rfl⟩ := z
    obtain ⟨-, -, rfl⟩ := tr_inj (gs_s hTR) hT2
    refine am_B.if_lt rfl rfl (fun _ => ?_) (fun z => absurd (by decide) z)
    refine am_B.run (hp := false) (sp := []) 200 rfl ?_
    refine am_B.icmp_eq rfl rfl (fun _ => ?_) (fun z => absurd rfl z)
    refine am_B.run (hp := false) (sp := []) 200 rfl ?_
    refine am_B.if_ne rfl rfl (fun z => absurd rfl z) (fun _ => ?_)
    refine am_B.run (hp := false) (sp := [90]) 200 rfl ?_
    rw [nI_add]
    exact ih (k + 1) (by omega) _ (I0.keep (by omega) (am_gr.set (am_fr.rf _ h).gr (Or.inl (Or.inr (Or.inl rfl))) _) (i5.imp fun g z => o _ _ (by omega) z) (fun j hj => (i6 j hj).imp fun g z => o _ _ (by omega) z)) _ _ _ _ _ _
set_option maxRecDepth 100000 in
set_option maxHeartbeats 4000000 in
theorem lw_after {l k nk lcv wcv mcv pth' rc rs : Nat} {h' : am_H} {g : Nat → Int32} {tl w : Nat → Nat} {R : Nat → Nat → Nat} (hk : k < many) (hm : many ≤ 3) (hn : n ≤ 200) (hl : l < n) (hT : T ≤ 6) (hwf : wfF n T gf) (hre : reachO n T gf) (hn6 : nk < 6) (htr : trc k = some (58 + k)) (hEk : E[k]? = some (ia nk g)) (I2 : LI h' sc many n T P (nI l) gl gf gco ge rws cnt trc sz tm LB E (k + 1)) {tmk : Int32}
    (hT1 : trAt h' k (nI nk) tmk (nI 1) (nI lcv) (nI wcv) (nI mcv) pth') (o : rOK n T nk l gl gf lc0 tl w R) (hfs : R nk 0 < 1073741824) (e3 : wcv = R nk 0 / 4096 + nk) (hw1 : lcv ≤ wcv)
    (K : ∀ h, LI h sc many n T P (nI l) gl gf gco ge rws cnt trc sz tm LB E (k + 1) → ∀ l8 l9 l10 l11 l12 l13 : Option Value, lB nm 90 [some (.ref 0), some (.ref 1), some (.ref 53), some (.ref 54), some (.ref 55), some (.int (nI many)), some (.int (nI 1)), some (.int (nI (k + 1))), l8, l9, l10, l11, l12, l13] [] h rc rs) (l12 l13 : Option Value) :
    lB nm 337 [some (.ref 0), some (.ref 1), some (.ref 53), some (.ref 54), some (.ref 55), some (.int (nI many)), some (.int (nI 1)), some (.int (nI k)), some (.int (nI l)), some (.int (nI nk)), some (.int (nI lcv)), some (.int (nI mcv)), l12, l13] [] h' rc rs := by
  have I3 := I2
  obtain ⟨j0, j1, j2, j3, j4, j5, j6, j7, j8, j9, j10, j11, W1, j13, j14, j15⟩ := I3
  have D : askW h' k many n 0 0 (nI 0) (nI l) (fun h'' => h'' = h') := askW.done (by omega) (by omega) (by omega) j2 W1.2.2.1 W1.2.2.2.2.2.1 j8 hT1
  refine am_B.run (hp := false) (sp := []) 200 rfl ?_
  refine am_B.callV (ci := 0) (n := 0) (as := []) rfl rfl rfl (ct_TA_last h' n (nI 0) (nI many) (nI l) (by omega) j2 W1.2.2.1) rfl rfl (by exact Nat.le_of_ble_eq_true rfl) rfl j2 rfl rfl (fun v h'' z => ?_)
  obtain ⟨rfl, rfl⟩ := z
  refine am_B.icmp_ne rfl rfl (fun z => absurd rfl z) (fun _ => ?_)
  refine am_B.run (hp := false) (sp := []) 200 rfl ?_
  refine am_B.ald rfl j11 (vp_n (show k < 8 by omega) rfl) (tr_get (by omega) htr) ?_
  refine am_B.alen rfl rfl ((j15 k (by omega)).trans hEk) (Or.inl ⟨by decide, rfl⟩) ?_
  refine am_B.icmp_ne rfl rfl (fun z => absurd rfl z) (fun _ => ?_)
  refine am_B.run (hp := false) (sp := []) 200 rfl ?_
  refine am_B.callV (ci := 0) (n := 1) (as := [.int (nI k)]) rfl rfl rfl (ct_TA_costQ _ k many n 0 0 (nI 0) (nI l) _ D) rfl rfl (by exact Nat.le_of_ble_eq_true rfl) rfl j2 rfl rfl (fun v h'' z => ?_)
  obtain ⟨rfl, sz', tm', al', lf', wf', mf', p', hT2, rfl⟩ := z
  obtain ⟨rfl, -, -⟩ := tr_inj hT1 hT2
  refine am_B.icmp_ne rfl rfl (fun z => absurd rfl z) (fun _ => ?_)
  refine am_B.run (hp := false) (sp := []) 200 rfl ?_
  refine am_B.callV (ci := 0) (n := 1) (as := [.int (nI k)]) rfl rfl rfl (ct_TA_worstQ _ k many n 0 0 (nI 0) (nI l) _ D) rfl rfl (by exact Nat.le_of_ble_eq_true rfl) rfl j2 rfl rfl (fun v h'' z => ?_)
  obtain ⟨rfl, sz', tm', al', lf', wf', mf', p', hT2, rfl⟩ := z
  obtain ⟨-, rfl, -⟩ := tr_inj hT1 hT2
  refine am_B.icmp_gt rfl rfl (fun z => absurd z (nI_nlt hw1 (by omega))) (fun _ => ?_)
  refine am_B.run (hp := false) (sp := []) 200 rfl ?_
  refine am_B.callV (ci := 0) (n := 1) (as := [.int (nI k)]) rfl rfl rfl (ct_TA_worstQ _ k many n 0 0 (nI 0) (nI l) _ D) rfl rfl (by exact Nat.le_of_ble_eq_true rfl) rfl j2 rfl rfl (fun v h'' z => ?_)
  obtain ⟨rfl, sz', tm', al', lf', wf', mf', p', hT2, rfl⟩ := z
  obtain ⟨-, rfl, -⟩ := tr_inj hT1 hT2
  refine am_B.run (hp := false) (sp := []) 200 rfl ?_
  refine am_B.ald rfl j11 (vp_n (show k < 8 by omega) rfl) (tr_get (by omega) htr) ?_
  refine am_B.alen rfl rfl ((j15 k (by omega)).trans hEk) (Or.inl ⟨by decide, rfl⟩) ?_
  refine am_B.run (hp := false) (sp := []) 200 rfl ?_
  refine am_B.callV (ci := 0) (n := 1) (as := [.int (nI 0)]) rfl rfl rfl (ct_TA_away _ n T l 0 (nI 0) (nI many) (nI P) gl gf lc0 hn (by omega) hl (by omega) hwf W1 j2 j5 j6) rfl rfl (by exact Nat.le_of_ble_eq_true rfl) rfl j2 rfl rfl (fun v h'' z => ?_)
  obtain ⟨r, rfl, hr1, fr, g15, grows, hfix⟩ := z
  obtain ⟨r1, r2⟩ := al_away o hn hl hre hfix
  rw [if_neg (show ¬ r 0 = 1073741824 by omega)]
  refine am_B.run (hp := false) (sp := []) 200 rfl ?_
  refine am_B.callS (n := 2) (as := [.int (nI 0), .int (nI (r 0))]) rfl rfl rfl (ct_MA_max _ 0 (r 0) (by omega) (by omega)) rfl rfl (by exact Nat.le_of_ble_eq_true rfl) rfl rfl rfl (fun v h3 z => ?_)
  obtain ⟨rfl, rfl⟩ := z
  refine am_B.run (hp := false) (sp := []) 200 rfl ?_
  rw [pk_mul]
  have hle : wcv ≤ nk + 9 * max 0 (r 0) := by
    rw [Nat.max_eq_right (Nat.zero_le _)]
    omega
  have hlt : nk + 9 * max 0 (r 0) < 2 ^ 31 := by
    rw [Nat.max_eq_right (Nat.zero_le _)]
    omega
  refine am_B.icmp_le rfl rfl (fun _ => ?_) (fun z => absurd (by
    have q := nI_le hle hlt
    rw [← nI_add] at q
    exact q) z)
  refine am_B.run (hp := false) (sp := [90]) 200 rfl ?_
  rw [nI_add k 1]
  exact K _ (I2.fr fr g15 grows) _ _ _ _ _ _
set_option maxRecDepth 100000 in
set_option maxHeartbeats 4000000 in
theorem lw_ends {l : Nat} (hm : many ≤ 3) (hn : n ≤ 200) (hl : l < n) (hT : T ≤ 6) (hwf : wfF n T gf) (hre : reachO n T gf) (N : netOK n T gl gf ge rws gco co) (hE : ∀ j, j < many → tRow sz LB trc E j)
    (K : ∀ h, LI h sc many n T P (nI l) gl gf gco ge rws cnt trc sz tm LB E many → ∀ l8 l9 l10 l11 l12 l13 : Option Value, lB nm 415 [some (.ref 0), some (.ref 1), some (.ref 53), some (.ref 54), some (.ref 55), some (.int (nI many)), some (.int (nI 1)), some (.int (nI many)), l8, l9, l10, l11, l12, l13] [] h 1 3600) :
    ∀ d k, k + d = many → ∀ h, LI h sc many n T P (nI l) gl gf gco ge rws cnt trc sz tm LB E k → ∀ l8 l9 l10 l11 l12 l13 : Option Value, lB nm 90 [some (.ref 0), some (.ref 1), some (.ref 53), some (.ref 54), some (.ref 55), some (.int (nI many)), some (.int (nI 1)), some (.int (nI k)), l8, l9, l10, l11, l12, l13] [] h (d + 1) (3600 * (d + 1)) := by
  intro d
  induction d with
  | zero =>
    intro k hk h I l8 l9 l10 l11 l12 l13
    obtain rfl : k = many := by omega
    refine am_B.run (hp := false) (sp := []) 200 rfl ?_
    refine am_B.icmp_ge rfl rfl (fun _ => K h I _ _ _ _ _ _) (fun z => absurd (nI_le (Nat.le_refl _) (by omega)) z)
  | succ d ih =>
    intro k hk h I l8 l9 l10 l11 l12 l13
    have I0 := I
    obtain ⟨i0, i1, i2, i3, i4, i5, i6, i7, i8, i9, i10, i11, W, i13, i14, i15⟩ := I
    obtain ⟨nk, g, hn6, hsz, htr, hEk, hlab⟩ := hE k (by omega)
    obtain ⟨tl, htl⟩ : ∃ tl : Nat → Nat, ∀ i, i < nk → tl i < 3 ∧ g i = nI (tl i) ∧ LB k i = nI (tl i) := ⟨fun i => if q : i < nk then (hlab i q).choose else 0, fun i hi => by
      dsimp only
      rw [dif_pos hi]
      exact (hlab i hi).choose_spec⟩
    obtain ⟨hTR, hPA⟩ := i14 k (Nat.le_refl _) (by omega)
    rw [hsz] at hTR
    have hl1 : ∀ i, i < nk → lc0 (tl i) = 1 := fun i hi => if_pos (by have := (htl i hi).1; omega)
    have hlc9 : ∀ i, i < 6 → lc0 i ≤ 9 := fun i hi => by unfold lc0; split <;> omega
    have A : askW h k many n 1 3600 (nI 0) (nI l) (alPost h k n T nk l (tm k) (30 + 3 * k) gl gf lc0 tl co) :=
      ⟨by omega, by omega, by omega, i2, W.2.2.1, W.2.2.2.2.2.1, i8, ct_PF_align h k n T l nk (nI P) (nI 1) (tm k) 0 0 0 (30 + 3 * k) 16 (fun _ => 0) gl gf gco (LB k) lc0 co tl hn (by omega) hl (by omega) hwf hre (fun t ht => ⟨(N.1 t ht).2.2.2.1, (N.1 t ht).1⟩) (fun i hi => ⟨(htl i hi).2.2, by have := (htl i hi).1; omega⟩) hlc9 W i3 i5 i6 hTR (i13 k (by omega)) hPA (by decide) (by omega) (by omega) (by omega) (by omega),
        fun h' q => by
          obtain ⟨_, _, _, _, _, _, -, -, -, -, -, -, F, -, -⟩ := q
          exact (F.2 1 (by omega) (fun q => by unfold pfC at q; omega)).trans i2,
        fun h' q => by
          obtain ⟨_, _, _, _, _, _, -, -, -, -, -, -, F, -, -⟩ := q
          exact (F.2 27 (by omega) (fun q => by unfold pfC at q; omega)).trans i8,
        fun h' q => by
          obtain ⟨_, _, _, _, _, _, q, -⟩ := q
          exact ⟨_, _, _, _, _, _, _, q⟩⟩
    refine am_B.run (hp := false) (sp := []) 200 rfl ?_
    refine am_B.icmp_ge rfl rfl (fun z => absurd z (nI_ge (by omega) (by omega))) (fun _ => ?_)
    refine am_B.run (hp := false) (sp := []) 200 rfl ?_
    refine am_B.callV (rc := d + 1) (rs := 3600 * (d + 1)) (ci := 0) (n := 1) (as := [.int (nI k)]) rfl rfl rfl (ct_TA_movesQ h k many n 1 3600 (nI 0) (nI l) _ A) rfl rfl (by exact Nat.le_of_ble_eq_true rfl) rfl i2 rfl rfl (fun v h' z => ?_)
    obtain ⟨z, sz', tm', al', lf', wf', mf', p', hT2, rfl⟩ := z
    obtain ⟨lcv, wcv, mcv, pth', P', g', hT1, hp1, hP', hmc, hpth, ⟨w, R, ps, ms, o, hw, hf0, hfs, e1, e2, e3, wk⟩, F, h15', hr'⟩ := z
    obtain ⟨-, -, rfl⟩ := tr_inj hT1 hT2
    have I1 := I0.keep (by omega) F h15' hr'
    have I2 := I1
    obtain ⟨j0, j1, j2, j3, j4, j5, j6, j7, j8, j9, j10, j11, W1, j13, j14, j15⟩ := I1
    rw [sm_ones hl1] at e3
    have hw1 := al_worst o hn (by omega) (by omega) hl1 hfs
    have H : HL h' k many n T P l nk mcv lcv wcv pth' P' (tm k) ge gf rws trc g g' := ⟨j2, W1.1, W1.2.2.1, j4, W1.2.2.2.1, W1.2.2.2.2.2.1, j8, j10, j11, (j15 k (by omega)).trans hEk, hT1, hp1, htr⟩
    refine am_B.if_lt rfl rfl (fun z => absurd z (nI_nlt (Nat.zero_le _) (by omega))) (fun _ => ?_)
    refine am_B.run (hp := false) (sp := []) 200 rfl ?_
    refine am_B.icmp_eq rfl rfl (fun _ => ?_) (fun z => absurd rfl z)
    refine am_B.run (hp := false) (sp := []) 200 rfl ?_
    refine am_B.if_ne rfl rfl (fun _ => ?_) (fun z => absurd z (by decide))
    refine am_B.run (hp := false) (sp := [138]) 200 rfl ?_
    have M := lw_moves (nm := nm) (rc := d + 1) (rs := 3600 * (d + 1)) H (by omega) hm hn hP' hmc hT (by omega) N (fun i hi => ⟨(htl i hi).1, (htl i hi).2.1⟩) o hw wk e2 ?_ mcv 0 (by omega) 0 (by rw [wk.1, wk.2.1]; omega) l12 l13
    · rw [wk.1, wk.2.1] at M
      exact M
    intro C hC l12 l13
    obtain rfl : lcv = C := by omega
    exact lw_after (by omega) hm hn hl hT hwf hre hn6 htr hEk I2 hT1 o hfs e3 (by omega) (fun h I => ih (k + 1) (by omega) h I) l12 l13
end ASK
