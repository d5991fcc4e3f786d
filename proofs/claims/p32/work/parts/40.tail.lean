/-! THE LAW'S END: the trace that it played -/
section TAIL
variable {nm : String} {h : am_H} {sc : am_C} {many n T P : Nat} {la szm tmm : Int32} {gl gf gco ge rws cnt lbm gb : Nat → Int32} {co : Nat → Nat}
set_option maxRecDepth 100000 in
set_option maxHeartbeats 4000000 in
theorem lw_607 {rc rs size : Nat} {tm al lf wf mf : Int32} {p : Nat} (hm : many ≤ 3) (h1 : h[1]? = some (c_TA (nI 0) (nI (many + 1)))) (h27 : h[27]? = some (ra 4 8 ts_)) (hT : h[28 + 3 * many]? = some (c_TR many (nI size) tm al lf wf mf p)) {l5 l6 l7 l8 l11 l12 l13 : Option Value} :
    lB nm 607 [some (.ref 0), some (.ref 1), some (.ref 53), some (.ref 54), some (.ref 55), l5, l6, l7, l8, some (.int (nI size)), some (.int (nI many)), l11, l12, l13] [] h rc rs := by
  refine am_B.run (hp := false) (sp := []) 200 rfl ?_
  refine am_B.callV (ci := 0) (n := 1) (as := [.int (nI many)]) rfl rfl rfl (ct_TA_length h many (many + 1) (nI 0) (nI size) tm al lf wf mf p (by omega) (by omega) h1 h27 hT) rfl rfl (by exact Nat.le_of_ble_eq_true rfl) rfl h1 rfl rfl (fun v h' z => ?_)
  obtain ⟨rfl, rfl⟩ := z
  refine am_B.run (hp := false) (sp := []) 200 rfl ?_
  refine am_B.icmp_ne rfl rfl (fun z => absurd rfl z) (fun _ => ?_)
  refine am_B.run (hp := false) (sp := []) 200 rfl ?_
  exact lB.done rfl rfl
set_option maxRecDepth 100000 in
set_option maxHeartbeats 4000000 in
theorem lw_tail {at_ size sil st ce : Nat} (I : PI h sc many n T P la gl gf gco ge rws cnt lbm szm tmm size gb) (hm : many ≤ 3) (hn : n ≤ 200) (hT : T ≤ 6) (hwf : wfF n T gf) (hre : reachO n T gf) (N : netOK n T gl gf ge rws gco co) (ha : at_ < n) (hs : size ≤ 8) (hsil : sil ≤ 9 * st) (hst : st ≤ 12)
    (hlab : ∀ i, i < size → ∃ l, l < 3 ∧ gb i = nI l) (hpl : ∀ l, la = nI l → played n T l gl gf lc0 co gb size at_ sil st) {l10 l11 l12 l13 : Option Value} :
    lB nm 573 [some (.ref 0), some (.ref 1), some (.ref 53), some (.ref 54), some (.ref 55), some (.int (nI many)), some (.int (nI ce)), some (.int (nI at_)), some (.int (nI sil)), some (.int (nI size)), l10, l11, l12, l13] [] h 1 3600 := by
  obtain ⟨i0, i1, i2, i3, i4, i5, i6, i7, i8, i9, i10, W, i12, i13, i14⟩ := I
  obtain ⟨tl, htl⟩ : ∃ tl : Nat → Nat, ∀ i, i < size → tl i < 3 ∧ gb i = nI (tl i) := ⟨fun i => if q : i < size then (hlab i q).choose else 0, fun i hi => by
    dsimp only
    rw [dif_pos hi]
    exact (hlab i hi).choose_spec⟩
  refine am_B.run (hp := false) (sp := []) 200 rfl ?_
  refine am_B.callV (ci := 0) (n := 1) (as := [.int (nI 5)]) rfl rfl rfl (ct_TA_store h many size 5 szm tmm (nI 0) 0 0 0 (30 + 3 * many) gb lbm (by omega) hs (by decide) i2 i8 i13 i12 i7) rfl rfl (by exact Nat.le_of_ble_eq_true rfl) rfl i2 rfl rfl (fun v h2 z => ?_)
  obtain ⟨rfl, eh2⟩ := z
  have k : ∀ a x, a ≠ 1 → a ≠ 28 + 3 * many → a ≠ 29 + 3 * many → h[a]? = some x → h2[a]? = some x := fun a x n1 n2 n3 hx => by
    rw [eh2]
    exact gs_n (Ne.symm n1) (gs_n (Ne.symm n2) (gs_n (Ne.symm n3) hx))
  have g1 : h2[1]? = some (c_TA (nI 0) (nI (many + 1))) := by
    rw [eh2]
    exact gs_s (gs_n (by omega) (gs_n (by omega) i2))
  have g28 : h2[28 + 3 * many]? = some (c_TR many (nI size) (nI 5) (nI 0) 0 0 0 (30 + 3 * many)) := by
    rw [eh2]
    exact gs_n (by omega) (gs_s (gs_n (by omega) i13))
  have g29 : h2[29 + 3 * many]? = some (ia 8 (va_cpy gb lbm 0 0 size)) := by
    rw [eh2]
    exact gs_n (by omega) (gs_n (by omega) (gs_s i12))
  have g27 := k _ _ (by decide) (by omega) (by omega) i8
  have glen : 53 ≤ h2.length := by
    rw [eh2, List.length_set, List.length_set, List.length_set]
    exact i0
  have W2 : pfW h2 n T (nI P) (nI 1) la gl gf lc0 := by
    obtain ⟨w2, w3, w9, w12, w13, w14, w16⟩ := W
    exact ⟨k _ _ (by decide) (by omega) (by omega) w2, k _ _ (by decide) (by omega) (by omega) w3, k _ _ (by decide) (by omega) (by omega) w9, k _ _ (by decide) (by omega) (by omega) w12, k _ _ (by decide) (by omega) (by omega) w13, k _ _ (by decide) (by omega) (by omega) w14, k _ _ (by decide) (by omega) (by omega) w16⟩
  have g4 := k _ _ (by decide) (by omega) (by omega) i3
  have g15 : ∃ g, h2[15]? = some (ia 10 g) := i5.imp fun g z => k _ _ (by decide) (by omega) (by omega) z
  have grows : rowsOK h2 := fun j hj => (i6 j hj).imp fun g z => k _ _ (by omega) (by omega) (by omega) z
  have g30 := k _ _ (by omega) (by omega) (by omega) i14
  clear eh2
  have g9 := W2.2.2.1
  refine am_B.run (hp := false) (sp := []) 200 rfl ?_
  refine am_B.icmp_ne rfl rfl (fun z => absurd rfl z) (fun _ => ?_)
  refine am_B.run (hp := false) (sp := []) 200 rfl ?_
  refine am_B.callV (ci := 0) (n := 0) (as := []) rfl rfl rfl (ct_TA_last h2 n (nI 0) (nI (many + 1)) la (by omega) g1 g9) rfl rfl (by exact Nat.le_of_ble_eq_true rfl) rfl g1 rfl rfl (fun v h3 z => ?_)
  obtain ⟨rfl, rfl⟩ := z
  refine am_B.icmp_ne rfl rfl (fun _ => lw_607 hm g1 g27 g28) (fun hla => ?_)
  have hlc9 : ∀ i, i < 6 → lc0 i ≤ 9 := fun i hi => by unfold lc0; split <;> omega
  have cpy : ∀ i, i < size → va_cpy gb lbm 0 0 size i = nI (tl i) := fun i hi => by rw [sb_cpy0 hi]; exact (htl i hi).2
  have hpl1 := hpl at_ hla.symm
  rw [← hla] at W2 g9
  have A : askW h3 many (many + 1) n 1 3600 (nI 0) (nI at_) (alPost h3 many n T size at_ (nI 5) (30 + 3 * many) gl gf lc0 tl co) :=
    ⟨by omega, by omega, by omega, g1, g9, W2.2.2.2.2.2.1, g27, ct_PF_align h3 many n T at_ size (nI P) (nI 1) (nI 5) 0 0 0 (30 + 3 * many) 16 (fun _ => 0) gl gf gco (va_cpy gb lbm 0 0 size) lc0 co tl hn (by omega) ha hs hwf hre (fun t ht => ⟨(N.1 t ht).2.2.2.1, (N.1 t ht).1⟩) (fun i hi => ⟨cpy i hi, by have := (htl i hi).1; omega⟩) hlc9 W2 g4 g15 grows g28 g29 g30 (by decide) (by omega) (by omega) (by omega) glen,
      fun h' q => by
        obtain ⟨_, _, _, _, _, _, -, -, -, -, -, -, F, -, -⟩ := q
        exact (F.2 1 (by omega) (fun q => by unfold pfC at q; omega)).trans g1,
      fun h' q => by
        obtain ⟨_, _, _, _, _, _, -, -, -, -, -, -, F, -, -⟩ := q
        exact (F.2 27 (by omega) (fun q => by unfold pfC at q; omega)).trans g27,
      fun h' q => by
        obtain ⟨_, _, _, _, _, _, q, -⟩ := q
        exact ⟨_, _, _, _, _, _, _, q⟩⟩
  refine am_B.run (hp := false) (sp := []) 200 rfl ?_
  refine am_B.callV (rc := 0) (rs := 0) (ci := 0) (n := 1) (as := [.int (nI many)]) rfl rfl rfl (ct_TA_costQ h3 many (many + 1) n 1 3600 (nI 0) (nI at_) _ A) rfl rfl (by exact Nat.le_of_ble_eq_true rfl) rfl g1 rfl rfl (fun v h' z => ?_)
  obtain ⟨z, sz', tm', al', lf', wf', mf', p', hT2, rfl⟩ := z
  have z1 := z
  obtain ⟨lcv, wcv, mcv, pth', P', g', hT1, hp1, hP', hmc, hpth, ⟨w, R, ps, ms, o, hw, hf0, hfs, e1, e2, e3, wk⟩, F, h15', hr'⟩ := z
  obtain ⟨rfl, -, -⟩ := tr_inj hT1 hT2
  have hc := hpl1.cost o hw (fun i hi => (htl i hi).2) ha (by omega)
  have q1 : h'[1]? = some (c_TA (nI 0) (nI (many + 1))) := (F.2 1 (by omega) (fun q => by unfold pfC at q; omega)).trans g1
  have q27 : h'[27]? = some (ra 4 8 ts_) := (F.2 27 (by omega) (fun q => by unfold pfC at q; omega)).trans g27
  refine am_B.run (hp := false) (sp := []) 200 rfl ?_
  refine am_B.icmp_gt rfl rfl (fun z => absurd z (nI_nlt (show lcv ≤ sil by omega) (by omega))) (fun _ => ?_)
  exact lw_607 hm q1 q27 hT1
end TAIL
