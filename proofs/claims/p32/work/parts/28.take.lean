/-! System.arraycopy; a trace that takes the buffer; events; what the law counts by -/
theorem am_B.copy {E : am_E} {R : Room} {Z : am_Z} {pc : Nat} {lo : am_L} {st : List Value} {h : am_H} {rc rs : Nat} {r : am_Row} {i a0 a1 n0 n1 n : Nat} {f g : Nat → Int32} (hf : am_find E.2.2.2 pc = some r) (hi : r.2.1 = .invokestatic i) (hw1 : Jvm.Cond.methodLink E.2.2.1.1.cls i arraycopyName ∈ E.1.2) (hw2 : Jvm.Cond.native arraycopyName ∈ E.1.2) (hw3 : Jvm.Cond.static arraycopyName ∈ E.1.2) (hw4 : Jvm.Cond.initialized "java/lang/System" ∈ E.1.2)
    (ha0 : h[a0]? = some (.inl (0, n0, .inl f))) (ha1 : h[a1]? = some (.inl (0, n1, .inl g))) (hn0 : n ≤ n0) (hn1 : n ≤ n1) (hn : n < 2 ^ 31) (hw : am_wd st ≤ 8) (hR1 : (Nat.ble 1 R.frames && Nat.ble 30 R.locals) = true)
    (k : am_B E R Z (pc + 3) lo st (h.set a1 (.inl (0, n1, .inl (va_cpy f g 0 0 n)))) rc rs) : am_B E R Z pc lo (.int (nI n) :: .int (nI 0) :: .ref a1 :: .int (nI 0) :: .ref a0 :: st) h rc rs := by
  intro ok l D cA sb base p e s m args below meth c C H locs cells slots ls hR hS h1 h2 hl
  have K := fun H1 l1 q1 q2 => k ok l D cA sb base p e s m args below meth c C H1 l1 cells slots ls q1 q2 h1 h2 hl
  obtain ⟨hm0, rfl⟩ := am_find_ok hf
  obtain ⟨hd, -, -⟩ := ok.2.2 r hm0
  obtain ⟨hx, hb, hml, hret, hown, hts, hK, hlk, hnm⟩ := C
  rw [hi] at hd
  have hc0 := am_at_i (hR.2.2.2 a0 _ ha0) (by decide)
  have hc1 := am_at_i (hR.2.2.2 a1 _ ha1) (by decide)
  obtain ⟨-, k0, hk0, cm0, hkk0⟩ := (hK.2.1 0 .int rfl rfl).1 n0 (fun j => .int (f j))
  obtain ⟨-, k1, hk1, cm1, hkk1⟩ := (hK.2.1 0 .int rfl rfl).1 n1 (fun j => .int (g j))
  have a0' : a1 ≠ 0 := by
    rintro rfl
    obtain ⟨x, hx⟩ := hR.2.2.1
    rw [hx] at ha1
    cases ha1
  have aB : base ≤ am_ad sb base a1 := by
    obtain ⟨j, rfl⟩ : ∃ j, a1 = j + 1 := ⟨a1 - 1, by omega⟩
    exact am_ad_ge
  have hz : (nI 0).toInt = 0 := nI_toInt (by decide)
  have hnn := nI_toInt hn
  have hcn := nI_clamp hn
  have hc00 : (nI 0).toNatClampNeg = 0 := nI_clamp (by decide)
  simp only [Bool.and_eq_true] at hR1
  have hR2 := Nat.le_of_ble_eq_true hR1.1
  have hR3 := Nat.le_of_ble_eq_true hR1.2
  intro T hT X
  obtain ⟨vm', X', step⟩ := X.arraycopy hx hown (hts _ hw1) (hts _ hw2) (hts _ hw3) (hts _ hw4) (src := am_ad sb base a0) (dst := am_ad sb base a1) (cs := arrV (cA 0) n0 (fun j => .int (f j))) (cd := arrV (cA 0) n1 (fun j => .int (g j))) (srcPos := nI 0) (destPos := nI 0) (n := nI n) (by rw [hT]; exact hc0) (by rw [hT]; exact hc1)
    (fun _ h => by cases h) (fun _ h => by cases h) (fun h => by cases h) (fun h => by cases h) hk0 hk1 hkk0 hkk1 (by simp [refKind]) (nI_nlt (Nat.le_refl _) (by decide)) (nI_nlt (Nat.le_refl _) (by decide)) (nI_nlt (Nat.zero_le _) hn)
    (by rw [hz, hnn, arrV_size]; omega)
    (by rw [hz, hnn, arrV_size]; omega)
    (fun vm₁ _ i hi => by
      have e : (arrV (cA 0) n0 (fun j => .int (f j))).slots.getD ((nI 0).toNatClampNeg + i) .null = .int (f ((nI 0).toNatClampNeg + i)) := by
        rw [Array.getD_eq_getD_getElem?, arrV_read _ _ (by rw [hcn] at hi; rw [hc00]; omega)]
        rfl
      refine ⟨?_, ?_⟩
      · rw [e]
        rfl
      · rw [e]
        exact trivial)
    (g := F0 m r.1 ls (.int (nI n) :: .int (nI 0) :: .ref (am_ad sb base a1) :: .int (nI 0) :: .ref (am_ad sb base a0) :: st.map (am_cv sb base))) rfl (by rw [hml]; exact hl.2.1) (rest := st.map (am_cv sb base)) rfl (by rw [hb]; exact hd) hR2 (by
      show 2 * 0 + _ + _ ≤ _
      rw [am_wd_cv]
      have : nativeFrameWords "java/lang/System" "arraycopy" 5 = 7 := by decide
      omega)
  have e1 : copied (arrV (cA 0) n0 (fun j => .int (f j))) (arrV (cA 0) n1 (fun j => .int (g j))) (nI 0) (nI 0) (nI n) = arrV (cA 0) n1 (fun j => .int (va_cpy f g 0 0 n j)) := by
    have := va_copied (fun z => Value.int z) (cA 0) (cA 0) (n0 := n0) (n1 := n1) (sp := (nI 0).toNatClampNeg) (dp := (nI 0).toNatClampNeg) (n := (nI n).toNatClampNeg) f g (by rw [hcn, hc00]; omega)
    rw [hcn, hc00] at this
    show _ = _
    unfold copied
    rw [hcn, hc00]
    exact this
  rw [e1] at X' step
  have hlt : am_ad sb base a1 < H.size := (Array.getElem?_eq_some_iff.mp hc1).1
  have hheap : ((T.setVm vm').setCell (am_ad sb base a1) (arrV (cA 0) n1 (fun j => .int (va_cpy f g 0 0 n j)))).heap = H.setIfInBounds (am_ad sb base a1) (arrV (cA 0) n1 (fun j => .int (va_cpy f g 0 0 n j))) := by rw [← hT]; rfl
  have oq : ∀ q : Nat, q ≠ am_ad sb base a1 → (H.setIfInBounds (am_ad sb base a1) (arrV (cA 0) n1 (fun j => .int (va_cpy f g 0 0 n j))))[q]? = H[q]? := fun q hq => by simp [Array.getElem?_setIfInBounds, Ne.symm hq]
  have hset : (H.setIfInBounds (am_ad sb base a1) (arrV (cA 0) n1 (fun j => .int (va_cpy f g 0 0 n j))))[am_ad sb base a1]? = some (arrV (cA 0) n1 (fun j => .int (va_cpy f g 0 0 n j))) := by simp [Array.getElem?_setIfInBounds, hlt]
  obtain ⟨t, a1', b1⟩ := K _ _ (hR.set ha1 (by simp) oq a0' (am_mk_i (by decide) hset)) ⟨by simp; exact hS.1, fun q g1 g2 => by
      rw [oq q (fun e => g2 (by rw [e]; exact aB))]
      exact hS.2.1 q g1 g2, fun q hq => by
      rcases List.mem_append.mp hq with h | h
      · exact hS.2.2 q h
      · obtain ⟨z, -, hz⟩ := List.mem_map.mp h
        rw [← hz]
        exact aB⟩ _ hheap X'
  exact ⟨t, step t a1', b1⟩
set_option maxRecDepth 100000 in
set_option maxHeartbeats 4000000 in
theorem ct_TR_take (h : am_H) (q b t : Nat) (sz tm al lf wf mf : Int32) (p : Nat) (gb gt : Nat → Int32) (hb : b ≤ 8) (hT : h[28 + 3 * q]? = some (c_TR q sz tm al lf wf mf p)) (hL : h[29 + 3 * q]? = some (ia 8 gt)) (h26 : h[26]? = some (ia 8 gb)) :
    am_Ct am_G0 m_TR_take 1 0 0 [.ref (28 + 3 * q), .ref 26, .int (nI b), .int (nI t)] h (fun v h' => v = none ∧ h' = (h.set (29 + 3 * q) (ia 8 (va_cpy gb gt 0 0 b))).set (28 + 3 * q) (c_TR q (nI b) (nI t) (nI 0) lf wf mf p)) := by
  refine am_Ct.of (E := E_TR_take) e_TR_take (by decide) (Nat.le_of_ble_eq_true rfl) ?_
  refine am_B.run (hp := false) (sp := []) 200 rfl ?_
  refine am_B.get rfl rfl rfl (by first | assumption | exact gs_s (by first | assumption | exact gs_s (by first | assumption | exact gs_s (by assumption) | (refine gs_n (by decide) ?_; assumption)) | (refine gs_n (by decide) ?_; first | assumption | exact gs_s (by assumption) | (refine gs_n (by decide) ?_; assumption))) | (refine gs_n (by decide) ?_; first | assumption | exact gs_s (by first | assumption | exact gs_s (by assumption) | (refine gs_n (by decide) ?_; assumption)) | (refine gs_n (by decide) ?_; first | assumption | exact gs_s (by assumption) | (refine gs_n (by decide) ?_; assumption)))) rfl rfl ?_
  refine am_B.run (hp := false) (sp := []) 200 rfl ?_
  refine am_B.copy (st := []) rfl rfl cw_TR_18 cw_nat cw_sta cw_ini h26 hL hb hb (by omega) (by decide) rfl ?_
  have hT1 : (h.set (29 + 3 * q) (ia 8 (va_cpy gb gt 0 0 b)))[28 + 3 * q]? = some (c_TR q sz tm al lf wf mf p) := gs_n (by omega) hT
  refine am_B.run (hp := false) (sp := []) 200 rfl ?_
  refine am_B.put rfl rfl rfl hT1 rfl (Nat.le_of_ble_eq_true rfl) rfl (fun q => by cases q) ?_
  refine am_B.run (hp := false) (sp := []) 200 rfl ?_
  refine am_B.put rfl rfl rfl (gs_s hT1) rfl (Nat.le_of_ble_eq_true rfl) rfl (fun q => by cases q) ?_
  rw [gs_ss]
  refine am_B.run (hp := false) (sp := []) 200 rfl ?_
  refine am_B.put rfl rfl rfl (gs_s hT1) rfl (Nat.le_of_ble_eq_true rfl) rfl (fun q => by cases q) ?_
  rw [gs_ss]
  exact am_B.vret rfl rfl rfl ⟨rfl, rfl⟩
set_option maxRecDepth 100000 in
set_option maxHeartbeats 4000000 in
theorem ct_TA_store (h : am_H) (k b t : Nat) (sz tm al lf wf mf : Int32) (p : Nat) (gb gt : Nat → Int32) (hk : k < 8) (hb : b ≤ 8) (ht : t ≤ 99) (h1 : h[1]? = some (c_TA (nI b) (nI k))) (h27 : h[27]? = some (ra 4 8 ts_)) (hT : h[28 + 3 * k]? = some (c_TR k sz tm al lf wf mf p)) (hL : h[29 + 3 * k]? = some (ia 8 gt)) (h26 : h[26]? = some (ia 8 gb)) :
    am_Ct am_G0 m_TA_store 2 0 0 [.ref 1, .int (nI t)] h (fun v h' => v = some (.int (nI k)) ∧ h' = ((h.set (29 + 3 * k) (ia 8 (va_cpy gb gt 0 0 b))).set (28 + 3 * k) (c_TR k (nI b) (nI t) (nI 0) lf wf mf p)).set 1 (c_TA (nI 0) (nI (k + 1)))) := by
  refine am_Ct.of (E := E_TA_store) e_TA_store (by decide) (Nat.le_of_ble_eq_true rfl) ?_
  refine am_B.run (hp := false) (sp := []) 200 rfl ?_
  refine am_B.if_lt rfl rfl (fun z => absurd z (nI_nlt (Nat.zero_le t) (by omega))) (fun _ => ?_)
  refine am_B.run (hp := false) (sp := []) 200 rfl ?_
  refine am_B.icmp_le rfl rfl (fun _ => ?_) (fun z => absurd (nI_le ht (by decide)) z)
  refine am_B.run (hp := false) (sp := []) 200 rfl ?_
  refine am_B.get rfl rfl rfl (by first | assumption | exact gs_s (by first | assumption | exact gs_s (by first | assumption | exact gs_s (by assumption) | (refine gs_n (by decide) ?_; assumption)) | (refine gs_n (by decide) ?_; first | assumption | exact gs_s (by assumption) | (refine gs_n (by decide) ?_; assumption))) | (refine gs_n (by decide) ?_; first | assumption | exact gs_s (by first | assumption | exact gs_s (by assumption) | (refine gs_n (by decide) ?_; assumption)) | (refine gs_n (by decide) ?_; first | assumption | exact gs_s (by assumption) | (refine gs_n (by decide) ?_; assumption)))) rfl rfl ?_
  refine am_B.run (hp := false) (sp := []) 200 rfl ?_
  refine am_B.icmp_lt rfl rfl (fun _ => ?_) (fun z => absurd (nI_lt hk (by decide)) z)
  refine am_B.run (hp := false) (sp := []) 200 rfl ?_
  refine am_B.get rfl rfl rfl (by first | assumption | exact gs_s (by first | assumption | exact gs_s (by first | assumption | exact gs_s (by assumption) | (refine gs_n (by decide) ?_; assumption)) | (refine gs_n (by decide) ?_; first | assumption | exact gs_s (by assumption) | (refine gs_n (by decide) ?_; assumption))) | (refine gs_n (by decide) ?_; first | assumption | exact gs_s (by first | assumption | exact gs_s (by assumption) | (refine gs_n (by decide) ?_; assumption)) | (refine gs_n (by decide) ?_; first | assumption | exact gs_s (by assumption) | (refine gs_n (by decide) ?_; assumption)))) rfl rfl ?_
  refine am_B.run (hp := false) (sp := []) 200 rfl ?_
  refine am_B.get rfl rfl rfl (by first | assumption | exact gs_s (by first | assumption | exact gs_s (by first | assumption | exact gs_s (by assumption) | (refine gs_n (by decide) ?_; assumption)) | (refine gs_n (by decide) ?_; first | assumption | exact gs_s (by assumption) | (refine gs_n (by decide) ?_; assumption))) | (refine gs_n (by decide) ?_; first | assumption | exact gs_s (by first | assumption | exact gs_s (by assumption) | (refine gs_n (by decide) ?_; assumption)) | (refine gs_n (by decide) ?_; first | assumption | exact gs_s (by assumption) | (refine gs_n (by decide) ?_; assumption)))) rfl rfl ?_
  refine am_B.run (hp := false) (sp := []) 200 rfl ?_
  refine am_B.ald rfl h27 (vp_n (show k < 8 by omega) rfl) (ts_get (show k < 8 by omega)) ?_
  refine am_B.run (hp := false) (sp := []) 200 rfl ?_
  refine am_B.get rfl rfl rfl (by first | assumption | exact gs_s (by first | assumption | exact gs_s (by first | assumption | exact gs_s (by assumption) | (refine gs_n (by decide) ?_; assumption)) | (refine gs_n (by decide) ?_; first | assumption | exact gs_s (by assumption) | (refine gs_n (by decide) ?_; assumption))) | (refine gs_n (by decide) ?_; first | assumption | exact gs_s (by first | assumption | exact gs_s (by assumption) | (refine gs_n (by decide) ?_; assumption)) | (refine gs_n (by decide) ?_; first | assumption | exact gs_s (by assumption) | (refine gs_n (by decide) ?_; assumption)))) rfl rfl ?_
  refine am_B.run (hp := false) (sp := []) 200 rfl ?_
  refine am_B.get rfl rfl rfl (by first | assumption | exact gs_s (by first | assumption | exact gs_s (by first | assumption | exact gs_s (by assumption) | (refine gs_n (by decide) ?_; assumption)) | (refine gs_n (by decide) ?_; first | assumption | exact gs_s (by assumption) | (refine gs_n (by decide) ?_; assumption))) | (refine gs_n (by decide) ?_; first | assumption | exact gs_s (by first | assumption | exact gs_s (by assumption) | (refine gs_n (by decide) ?_; assumption)) | (refine gs_n (by decide) ?_; first | assumption | exact gs_s (by assumption) | (refine gs_n (by decide) ?_; assumption)))) rfl rfl ?_
  refine am_B.run (hp := false) (sp := []) 200 rfl ?_
  refine am_B.callV (ci := 4) (n := 3) (as := [.ref 26, .int (nI b), .int (nI t)]) rfl rfl rfl (ct_TR_take h k b t sz tm al lf wf mf p gb gt hb hT hL h26) rfl rfl (by exact Nat.le_of_ble_eq_true rfl) rfl hT rfl rfl (fun v h' z => ?_)
  obtain ⟨rfl, rfl⟩ := z
  have g1 : ((h.set (29 + 3 * k) (ia 8 (va_cpy gb gt 0 0 b))).set (28 + 3 * k) (c_TR k (nI b) (nI t) (nI 0) lf wf mf p))[1]? = some (c_TA (nI b) (nI k)) := gs_n (by omega) (gs_n (by omega) h1)
  refine am_B.run (hp := false) (sp := []) 200 rfl ?_
  refine am_B.put rfl rfl rfl g1 rfl (Nat.le_of_ble_eq_true rfl) rfl (fun q => by cases q) ?_
  refine am_B.run (hp := false) (sp := []) 200 rfl ?_
  refine am_B.get rfl rfl rfl (gs_s g1) rfl rfl ?_
  refine am_B.run (hp := false) (sp := []) 200 rfl ?_
  refine am_B.put rfl rfl rfl (gs_s g1) rfl (Nat.le_of_ble_eq_true rfl) rfl (fun q => by cases q) ?_
  rw [gs_ss]
  show am_B _ _ _ _ _ _ (((h.set (29 + 3 * k) (ia 8 (va_cpy gb gt 0 0 b))).set (28 + 3 * k) (c_TR k (nI b) (nI t) (nI 0) lf wf mf p)).set 1 (c_TA (nI 0) (nI k + nI 1))) _ _
  rw [nI_add]
  refine am_B.run (hp := false) (sp := []) 200 rfl ?_
  refine am_B.get rfl rfl rfl (gs_s g1) rfl rfl ?_
  refine am_B.run (hp := false) (sp := []) 200 rfl ?_
  exact am_B.iret rfl rfl rfl ⟨by rw [nI_prd], rfl⟩
set_option maxRecDepth 100000 in
set_option maxHeartbeats 4000000 in
theorem ct_TA_event (h : am_H) (l b : Nat) (nt : Int32) (gb : Nat → Int32) (hl : l < 6) (hb : b < 8) (h1 : h[1]? = some (c_TA (nI b) nt)) (h26 : h[26]? = some (ia 8 gb)) :
    am_Ct am_G0 m_TA_event 1 0 0 [.ref 1, .int (nI l)] h (fun v h' => v = some (.int (nI (b + 1))) ∧ h' = (h.set 26 (ia 8 (upd gb b (nI l)))).set 1 (c_TA (nI (b + 1)) nt)) := by
  refine am_Ct.of (E := E_TA_event) e_TA_event (by decide) (Nat.le_of_ble_eq_true rfl) ?_
  refine am_B.run (hp := false) (sp := []) 200 rfl ?_
  refine am_B.callS (n := 1) (as := [.int (nI l)]) rfl rfl rfl (ct_TA_isNoLabel 0 _ l hl) rfl rfl (by exact Nat.le_of_ble_eq_true rfl) rfl rfl rfl (fun v h' q => ?_)
  obtain ⟨rfl, rfl⟩ := q
  refine am_B.run (hp := false) (sp := []) 200 rfl ?_
  refine am_B.if_eq rfl rfl (fun _ => ?_) (fun z => absurd rfl z)
  refine am_B.run (hp := false) (sp := []) 200 rfl ?_
  refine am_B.get rfl rfl rfl (by first | assumption | exact gs_s (by first | assumption | exact gs_s (by first | assumption | exact gs_s (by assumption) | (refine gs_n (by decide) ?_; assumption)) | (refine gs_n (by decide) ?_; first | assumption | exact gs_s (by assumption) | (refine gs_n (by decide) ?_; assumption))) | (refine gs_n (by decide) ?_; first | assumption | exact gs_s (by first | assumption | exact gs_s (by assumption) | (refine gs_n (by decide) ?_; assumption)) | (refine gs_n (by decide) ?_; first | assumption | exact gs_s (by assumption) | (refine gs_n (by decide) ?_; assumption)))) rfl rfl ?_
  refine am_B.run (hp := false) (sp := []) 200 rfl ?_
  refine am_B.icmp_lt rfl rfl (fun _ => ?_) (fun z => absurd (nI_lt hb (by decide)) z)
  refine am_B.run (hp := false) (sp := []) 200 rfl ?_
  refine am_B.get rfl rfl rfl (by first | assumption | exact gs_s (by first | assumption | exact gs_s (by first | assumption | exact gs_s (by assumption) | (refine gs_n (by decide) ?_; assumption)) | (refine gs_n (by decide) ?_; first | assumption | exact gs_s (by assumption) | (refine gs_n (by decide) ?_; assumption))) | (refine gs_n (by decide) ?_; first | assumption | exact gs_s (by first | assumption | exact gs_s (by assumption) | (refine gs_n (by decide) ?_; assumption)) | (refine gs_n (by decide) ?_; first | assumption | exact gs_s (by assumption) | (refine gs_n (by decide) ?_; assumption)))) rfl rfl ?_
  refine am_B.run (hp := false) (sp := []) 200 rfl ?_
  refine am_B.get rfl rfl rfl (by first | assumption | exact gs_s (by first | assumption | exact gs_s (by first | assumption | exact gs_s (by assumption) | (refine gs_n (by decide) ?_; assumption)) | (refine gs_n (by decide) ?_; first | assumption | exact gs_s (by assumption) | (refine gs_n (by decide) ?_; assumption))) | (refine gs_n (by decide) ?_; first | assumption | exact gs_s (by first | assumption | exact gs_s (by assumption) | (refine gs_n (by decide) ?_; assumption)) | (refine gs_n (by decide) ?_; first | assumption | exact gs_s (by assumption) | (refine gs_n (by decide) ?_; assumption)))) rfl rfl ?_
  refine am_B.run (hp := false) (sp := []) 200 rfl ?_
  refine am_B.ast rfl h26 (vp_n hb rfl) rfl ?_
  rw [nI_clamp (show b < 2 ^ 31 by omega)]
  refine am_B.run (hp := false) (sp := []) 200 rfl ?_
  refine am_B.get rfl rfl rfl (by first | assumption | exact gs_s (by first | assumption | exact gs_s (by first | assumption | exact gs_s (by assumption) | (refine gs_n (by decide) ?_; assumption)) | (refine gs_n (by decide) ?_; first | assumption | exact gs_s (by assumption) | (refine gs_n (by decide) ?_; assumption))) | (refine gs_n (by decide) ?_; first | assumption | exact gs_s (by first | assumption | exact gs_s (by assumption) | (refine gs_n (by decide) ?_; assumption)) | (refine gs_n (by decide) ?_; first | assumption | exact gs_s (by assumption) | (refine gs_n (by decide) ?_; assumption)))) rfl rfl ?_
  refine am_B.run (hp := false) (sp := []) 200 rfl ?_
  refine am_B.put rfl rfl rfl (by first | assumption | exact gs_s (by first | assumption | exact gs_s (by first | assumption | exact gs_s (by assumption) | (refine gs_n (by decide) ?_; assumption)) | (refine gs_n (by decide) ?_; first | assumption | exact gs_s (by assumption) | (refine gs_n (by decide) ?_; assumption))) | (refine gs_n (by decide) ?_; first | assumption | exact gs_s (by first | assumption | exact gs_s (by assumption) | (refine gs_n (by decide) ?_; assumption)) | (refine gs_n (by decide) ?_; first | assumption | exact gs_s (by assumption) | (refine gs_n (by decide) ?_; assumption)))) rfl (Nat.le_of_ble_eq_true rfl) rfl (fun q => by cases q) ?_
  show am_B _ _ _ _ _ _ ((h'.set 26 (ia 8 (upd gb b (nI l)))).set 1 (c_TA (nI b + nI 1) nt)) _ _
  rw [nI_add]
  refine am_B.run (hp := false) (sp := []) 200 rfl ?_
  refine am_B.get rfl rfl rfl (gs_s (gs_n (by decide) h1)) rfl rfl ?_
  exact am_B.iret rfl rfl rfl ⟨rfl, rfl⟩
/-! the law's own small ones -/
theorem and31 (v : Int32) : ∃ a, a < 2 ^ 31 ∧ v &&& nI 2147483647 = nI a := by
  obtain ⟨g, hg⟩ := ex_nI (fun _ => v)
  have e : v = nI (g 0) := congrFun hg 0
  refine ⟨g 0 &&& 2147483647, Nat.lt_of_le_of_lt Nat.and_le_right (by decide), ?_⟩
  rw [e, nI_and]
theorem am_B.irem {E : am_E} {R : Room} {Z : am_Z} {pc : Nat} {lo : am_L} {st : List Value} {h : am_H} {rc rs : Nat} {nx tg : Nat} {kv : Value} {x y : Int32} (hf : am_find E.2.2.2 pc = some (pc, .irem, nx, tg, kv)) (hy : ¬ y = 0) (k : am_B E R Z nx lo (.int (x - x / y * y) :: st) h rc rs) : am_B E R Z pc lo (.int y :: .int x :: st) h rc rs := by
  have e1 : am_bin .irem (.int y) (.int x) = some (.int (x - x / y * y)) := if_neg hy
  have e2 : am_stk .irem (.int y :: .int x :: st) = some (.int (x - x / y * y) :: st) := by simp [am_stk, e1]
  refine am_B.pure hf ?_ k
  simp [am_pure, am_push, e2]
set_option maxRecDepth 100000 in
set_option maxHeartbeats 4000000 in
theorem ct_LW_below (f : Nat) (h : am_H) (v : Int32) (N : Nat) (h0 : 0 < N) (hN : N < 2 ^ 31) : am_Ct am_G0 m_LW_below f 0 0 [.int v, .int (nI N)] h (fun r h' => h' = h ∧ ∃ k, k < N ∧ r = some (.int (nI k))) := by
  obtain ⟨a, ha, ea⟩ := and31 v
  refine am_Ct.of (E := E_LW_below) e_LW_below (by decide) (Nat.le_of_ble_eq_true rfl) ?_
  refine am_B.run (hp := false) (sp := []) 200 rfl ?_
  refine am_B.irem rfl (fun e => ?_) ?_
  · have := (nI_eq hN (by decide)).mp (show nI N = nI 0 from e)
    omega
  · rw [ea, pk_rem ha h0 hN]
    exact am_B.iret rfl rfl rfl ⟨rfl, a % N, Nat.mod_lt _ h0, rfl⟩
set_option maxRecDepth 100000 in
set_option maxHeartbeats 4000000 in
theorem ct_LW_cell (f : Nat) (h : am_H) (L k : Nat) (xs : Nat → Int32) (hL : L < 2 ^ 31) (hk : k < 2 ^ 31) (hs : h[0]? = some (.inl (99, L, .inl xs))) : am_Ct am_G0 m_LW_cell f 0 0 [.ref 0, .int (nI k)] h (fun r h' => h' = h ∧ ∃ x, r = some (.int x)) := by
  refine am_Ct.of (E := E_LW_cell) e_LW_cell (by decide) (Nat.le_of_ble_eq_true rfl) ?_
  refine am_B.run (hp := false) (sp := []) 200 rfl ?_
  refine am_B.alen rfl rfl hs (Or.inr rfl) ?_
  refine am_B.icmp_ge rfl rfl (fun _ => ?_) (fun z => ?_)
  · refine am_B.run (hp := false) (sp := []) 200 rfl ?_
    exact am_B.iret rfl rfl rfl ⟨rfl, _, rfl⟩
  · have hlt : k < L := by
      rcases Nat.lt_or_ge k L with q | q
      · exact q
      · exact absurd (nI_le q hk) z
    refine am_B.run (hp := false) (sp := []) 200 rfl ?_
    refine am_B.ald rfl hs (vp_nI hlt hL) rfl ?_
    refine am_B.run (hp := false) (sp := []) 200 rfl ?_
    exact am_B.iret rfl rfl rfl ⟨rfl, _, rfl⟩
theorem ntz_all : ∀ e : Fin 64, (e.val = 0 ∧ (nI e.val ^^^ -1) &&& (nI e.val - nI 1) = -1) ∨ ∃ t : Fin 6, e.val.testBit t.val = true ∧ (nI e.val ^^^ -1) &&& (nI e.val - nI 1) = nI (2 ^ t.val - 1) := by decide +kernel
set_option maxRecDepth 100000 in
set_option maxHeartbeats 4000000 in
theorem ct_IN_ntz (f : Nat) (h : am_H) (e : Nat) (he : e < 64) : am_Ct am_G0 m_IN_numberOfTrailingZeros f 0 0 [.int (nI e)] h (fun r h' => h' = h ∧ ((e = 0 ∧ r = some (.int (nI 32))) ∨ ∃ t, t < 6 ∧ e.testBit t = true ∧ r = some (.int (nI t)))) := by
  refine am_Ct.ofF (E := E_IN_numberOfTrailingZeros) e_IN_numberOfTrailingZeros pf_ntz (Nat.le_of_ble_eq_true rfl) ?_
  rcases ntz_all ⟨e, he⟩ with ⟨e0, hi⟩ | ⟨t, hb, hi⟩
  · dsimp only at e0 hi
    refine am_B.run (hp := false) (sp := [8]) 200 rfl ?_
    rw [hi]
    refine am_B.run (hp := false) (sp := []) 200 rfl ?_
    refine am_B.if_gt rfl rfl (fun z => absurd z (by decide)) (fun _ => ?_)
    refine am_B.run (hp := false) (sp := []) 200 rfl ?_
    exact am_B.iret rfl rfl rfl ⟨rfl, Or.inl ⟨e0, rfl⟩⟩
  · obtain ⟨t, ht⟩ := t
    dsimp only at hb hi
    refine am_B.run (hp := false) (sp := [8]) 200 rfl ?_
    rw [hi]
    obtain rfl | rfl | rfl | rfl | rfl | rfl : t = 0 ∨ t = 1 ∨ t = 2 ∨ t = 3 ∨ t = 4 ∨ t = 5 := by omega
    · refine am_B.run (hp := false) (sp := []) 200 rfl ?_
      refine am_B.if_gt rfl rfl (fun z => absurd z (by decide)) (fun _ => ?_)
      refine am_B.run (hp := false) (sp := []) 200 rfl ?_
      exact am_B.iret rfl rfl rfl ⟨rfl, Or.inr ⟨0, ht, hb, rfl⟩⟩
    · refine am_B.run (hp := false) (sp := []) 200 rfl ?_
      refine am_B.if_gt rfl rfl (fun _ => ?_) (fun z => absurd (by decide) z)
      refine am_B.run (hp := false) (sp := []) 200 rfl ?_
      refine am_B.icmp_le rfl rfl (fun _ => ?_) (fun z => absurd (by decide) z)
      refine am_B.run (hp := false) (sp := []) 200 rfl ?_
      refine am_B.icmp_le rfl rfl (fun _ => ?_) (fun z => absurd (by decide) z)
      refine am_B.run (hp := false) (sp := []) 200 rfl ?_
      refine am_B.icmp_le rfl rfl (fun _ => ?_) (fun z => absurd (by decide) z)
      refine am_B.run (hp := false) (sp := []) 200 rfl ?_
      refine am_B.icmp_le rfl rfl (fun _ => ?_) (fun z => absurd (by decide) z)
      refine am_B.run (hp := false) (sp := []) 200 rfl ?_
      exact am_B.iret rfl rfl rfl ⟨rfl, Or.inr ⟨1, ht, hb, rfl⟩⟩
    · refine am_B.run (hp := false) (sp := []) 200 rfl ?_
      refine am_B.if_gt rfl rfl (fun _ => ?_) (fun z => absurd (by decide) z)
      refine am_B.run (hp := false) (sp := []) 200 rfl ?_
      refine am_B.icmp_le rfl rfl (fun _ => ?_) (fun z => absurd (by decide) z)
      refine am_B.run (hp := false) (sp := []) 200 rfl ?_
      refine am_B.icmp_le rfl rfl (fun _ => ?_) (fun z => absurd (by decide) z)
      refine am_B.run (hp := false) (sp := []) 200 rfl ?_
      refine am_B.icmp_le rfl rfl (fun _ => ?_) (fun z => absurd (by decide) z)
      refine am_B.run (hp := false) (sp := []) 200 rfl ?_
      refine am_B.icmp_le rfl rfl (fun _ => ?_) (fun z => absurd (by decide) z)
      refine am_B.run (hp := false) (sp := []) 200 rfl ?_
      exact am_B.iret rfl rfl rfl ⟨rfl, Or.inr ⟨2, ht, hb, rfl⟩⟩
    · refine am_B.run (hp := false) (sp := []) 200 rfl ?_
      refine am_B.if_gt rfl rfl (fun _ => ?_) (fun z => absurd (by decide) z)
      refine am_B.run (hp := false) (sp := []) 200 rfl ?_
      refine am_B.icmp_le rfl rfl (fun _ => ?_) (fun z => absurd (by decide) z)
      refine am_B.run (hp := false) (sp := []) 200 rfl ?_
      refine am_B.icmp_le rfl rfl (fun _ => ?_) (fun z => absurd (by decide) z)
      refine am_B.run (hp := false) (sp := []) 200 rfl ?_
      refine am_B.icmp_le rfl rfl (fun _ => ?_) (fun z => absurd (by decide) z)
      refine am_B.run (hp := false) (sp := []) 200 rfl ?_
      refine am_B.icmp_le rfl rfl (fun z => absurd z (by decide)) (fun _ => ?_)
      refine am_B.run (hp := false) (sp := []) 200 rfl ?_
      exact am_B.iret rfl rfl rfl ⟨rfl, Or.inr ⟨3, ht, hb, rfl⟩⟩
    · refine am_B.run (hp := false) (sp := []) 200 rfl ?_
      refine am_B.if_gt rfl rfl (fun _ => ?_) (fun z => absurd (by decide) z)
      refine am_B.run (hp := false) (sp := []) 200 rfl ?_
      refine am_B.icmp_le rfl rfl (fun _ => ?_) (fun z => absurd (by decide) z)
      refine am_B.run (hp := false) (sp := []) 200 rfl ?_
      refine am_B.icmp_le rfl rfl (fun _ => ?_) (fun z => absurd (by decide) z)
      refine am_B.run (hp := false) (sp := []) 200 rfl ?_
      refine am_B.icmp_le rfl rfl (fun _ => ?_) (fun z => absurd (by decide) z)
      refine am_B.run (hp := false) (sp := []) 200 rfl ?_
      refine am_B.icmp_le rfl rfl (fun z => absurd z (by decide)) (fun _ => ?_)
      refine am_B.run (hp := false) (sp := []) 200 rfl ?_
      exact am_B.iret rfl rfl rfl ⟨rfl, Or.inr ⟨4, ht, hb, rfl⟩⟩
    · refine am_B.run (hp := false) (sp := []) 200 rfl ?_
      refine am_B.if_gt rfl rfl (fun _ => ?_) (fun z => absurd (by decide) z)
      refine am_B.run (hp := false) (sp := []) 200 rfl ?_
      refine am_B.icmp_le rfl rfl (fun _ => ?_) (fun z => absurd (by decide) z)
      refine am_B.run (hp := false) (sp := []) 200 rfl ?_
      refine am_B.icmp_le rfl rfl (fun _ => ?_) (fun z => absurd (by decide) z)
      refine am_B.run (hp := false) (sp := []) 200 rfl ?_
      refine am_B.icmp_le rfl rfl (fun z => absurd z (by decide)) (fun _ => ?_)
      refine am_B.run (hp := false) (sp := []) 200 rfl ?_
      refine am_B.icmp_le rfl rfl (fun _ => ?_) (fun z => absurd (by decide) z)
      refine am_B.run (hp := false) (sp := []) 200 rfl ?_
      exact am_B.iret rfl rfl rfl ⟨rfl, Or.inr ⟨5, ht, hb, rfl⟩⟩
