/-! ALIGNING a trace -/
theorem am_B.idivK {E : am_E} {R : Room} {Z : am_Z} {pc : Nat} {lo : am_L} {st : List Value} {h : am_H} {rc rs : Nat} {nx tg : Nat} {kv : Value} {x : Int32} (hf : am_find E.2.2.2 pc = some (pc, .idiv, nx, tg, kv)) (k : am_B E R Z nx lo (.int (x / nI 4096) :: st) h rc rs) : am_B E R Z pc lo (.int (nI 4096) :: .int x :: st) h rc rs :=
  am_B.pure hf rfl k
theorem am_B.iremK {E : am_E} {R : Room} {Z : am_Z} {pc : Nat} {lo : am_L} {st : List Value} {h : am_H} {rc rs : Nat} {nx tg : Nat} {kv : Value} {x : Int32} (hf : am_find E.2.2.2 pc = some (pc, .irem, nx, tg, kv)) (k : am_B E R Z nx lo (.int (x - x / nI 4096 * nI 4096) :: st) h rc rs) : am_B E R Z pc lo (.int (nI 4096) :: .int x :: st) h rc rs :=
  am_B.pure hf rfl k
/-- an aligned trace: its least cost, its worst one, its moves and their number -/
def alOK (n T sz l : Nat) (gl gf : Nat → Int32) (lc tl co : Nat → Nat) (lcv wcv mcv : Nat) (g : Nat → Int32) : Prop :=
  ∃ w R ps ms, rOK n T sz l gl gf lc tl w R ∧ (∀ t, t < T → w t = co t * 4096 + 1) ∧ R 0 0 < 1073741824 ∧ R sz 0 < 1073741824 ∧ lcv = R 0 0 / 4096 ∧ mcv = R 0 0 % 4096 ∧ wcv = R sz 0 / 4096 + sm (fun i => lc (tl i)) sz ∧ wkI n T sz gl gf lc tl w R mcv g ps ms
theorem wI.ok {n T sz l : Nat} {gl gf : Nat → Int32} {lc tl w co : Nat → Nat} {h h' : am_H} {R : Nat → Nat → Nat} (I : wI n T sz l gl gf lc tl w h h' R 0) (hw : ∀ t, t < T → w t = co t * 4096 + 1) (hco : ∀ t, t < T → co t ≤ 9) (hlc : ∀ i, i < sz → lc (tl i) ≤ 9) : rOK n T sz l gl gf lc tl w R :=
  ⟨I.2.2.2.2.1, fun i hi => I.2.2.2.2.2 i (Nat.zero_le _) hi, fun t ht => ⟨co t, hco t ht, hw t ht⟩, hlc⟩
/-- from the first marking the end is never far -/
theorem rOK.near {n T sz l : Nat} {gl gf : Nat → Int32} {lc tl w : Nat → Nat} {R : Nat → Nat → Nat} (o : rOK n T sz l gl gf lc tl w R) (hr : reachO n T gf) (hl : l < n) (hn : n ≤ 200) : ∀ d i, i + d = sz → R i 0 ≤ 36865 * l + 36865 * d := by
  intro d
  induction d with
  | zero =>
    intro i hi
    obtain rfl : i = sz := by omega
    have e1 := reach_le hr o.fin.1 (M := 36865) (fun t ht => by
      obtain ⟨c, c1, c2⟩ := o.wgt t ht
      omega) l l (Nat.le_refl _) hl
    have e2 := o.fin.2.1 l hl
    unfold endB at e2
    rw [if_pos rfl] at e2
    omega
  | succ d ih =>
    intro i hi
    have e := ih (i + 1) (by omega)
    obtain ⟨b, b1, b2⟩ := o.row i (by omega)
    have e1 := b2.2.1 0 (by omega)
    have e2 := (b1 0 (by omega)).2.1
    have e3 := o.2.2.2 i (by omega)
    omega
set_option maxRecDepth 100000 in
set_option maxHeartbeats 4000000 in
theorem ct_PF_alignDone (h : am_H) (q : Nat) (sz tm lf wf mf : Int32) (pth : Nat) (hTR : h[28 + 3 * q]? = some (c_TR q sz tm (nI 1) lf wf mf pth)) : am_Ct am_G0 m_PF_align 4 1 3600 [.ref 14, .ref (28 + 3 * q)] h (fun v h' => v = none ∧ h' = h) := by
  refine am_Ct.of (E := E_PF_align) e_PF_align (by decide) (Nat.le_of_ble_eq_true rfl) ?_
  refine am_B.run (hp := false) (sp := []) 200 rfl ?_
  refine am_B.get rfl rfl rfl (by first | assumption | exact gs_s (by first | assumption | exact gs_s (by first | assumption | exact gs_s (by assumption) | (refine gs_n (by decide) ?_; assumption)) | (refine gs_n (by decide) ?_; first | assumption | exact gs_s (by assumption) | (refine gs_n (by decide) ?_; assumption))) | (refine gs_n (by decide) ?_; first | assumption | exact gs_s (by first | assumption | exact gs_s (by assumption) | (refine gs_n (by decide) ?_; assumption)) | (refine gs_n (by decide) ?_; first | assumption | exact gs_s (by assumption) | (refine gs_n (by decide) ?_; assumption)))) rfl rfl ?_
  refine am_B.run (hp := false) (sp := []) 200 rfl ?_
  refine am_B.if_eq rfl rfl (fun z => absurd z (by decide)) (fun _ => ?_)
  refine am_B.run (hp := false) (sp := []) 200 rfl ?_
  exact am_B.vret rfl rfl rfl ⟨rfl, rfl⟩
set_option maxRecDepth 100000 in
set_option maxHeartbeats 4000000 in
theorem ct_PF_alignNone (h : am_H) (q : Nat) (n T : Nat) (pc ex : Int32) (gl gf : Nat → Int32) (lc : Nat → Nat) (sz tm lf wf mf : Int32) (pth : Nat) (W : pfW h n T pc ex (-1) gl gf lc) (hTR : h[28 + 3 * q]? = some (c_TR q sz tm (nI 0) lf wf mf pth)) : am_Ct am_G0 m_PF_align 4 1 3600 [.ref 14, .ref (28 + 3 * q)] h (fun v h' => v = none ∧ h' = h.set (28 + 3 * q) (c_TR q sz tm (nI 1) (-1) (-1) (-1) pth)) := by
  refine am_Ct.of (E := E_PF_align) e_PF_align (by decide) (Nat.le_of_ble_eq_true rfl) ?_
  refine am_B.run (hp := false) (sp := []) 200 rfl ?_
  refine am_B.get rfl rfl rfl (by first | assumption | exact gs_s (by first | assumption | exact gs_s (by first | assumption | exact gs_s (by assumption) | (refine gs_n (by decide) ?_; assumption)) | (refine gs_n (by decide) ?_; first | assumption | exact gs_s (by assumption) | (refine gs_n (by decide) ?_; assumption))) | (refine gs_n (by decide) ?_; first | assumption | exact gs_s (by first | assumption | exact gs_s (by assumption) | (refine gs_n (by decide) ?_; assumption)) | (refine gs_n (by decide) ?_; first | assumption | exact gs_s (by assumption) | (refine gs_n (by decide) ?_; assumption)))) rfl rfl ?_
  refine am_B.run (hp := false) (sp := []) 200 rfl ?_
  refine am_B.if_eq rfl rfl (fun _ => ?_) (fun z => absurd rfl z)
  refine am_B.run (hp := false) (sp := []) 200 rfl ?_
  refine am_B.put rfl rfl rfl hTR rfl (Nat.le_of_ble_eq_true rfl) rfl (fun q => by cases q) ?_
  have hTR2 := gs_s (c := c_TR q sz tm (nI 1) lf wf mf pth) hTR
  obtain ⟨h2, h3, h9, h12, h13, h14, h16⟩ := W.set (Or.inl (show 17 ≤ 28 + 3 * q by omega)) (c_TR q sz tm (nI 1) lf wf mf pth)
  show am_B _ _ _ _ _ _ (h.set (28 + 3 * q) (c_TR q sz tm (nI 1) lf wf mf pth)) _ _
  refine am_B.run (hp := false) (sp := []) 200 rfl ?_
  refine am_B.get rfl rfl rfl (by first | assumption | exact gs_s (by first | assumption | exact gs_s (by first | assumption | exact gs_s (by assumption) | (refine gs_n (by decide) ?_; assumption)) | (refine gs_n (by decide) ?_; first | assumption | exact gs_s (by assumption) | (refine gs_n (by decide) ?_; assumption))) | (refine gs_n (by decide) ?_; first | assumption | exact gs_s (by first | assumption | exact gs_s (by assumption) | (refine gs_n (by decide) ?_; assumption)) | (refine gs_n (by decide) ?_; first | assumption | exact gs_s (by assumption) | (refine gs_n (by decide) ?_; assumption)))) rfl rfl ?_
  refine am_B.run (hp := false) (sp := []) 200 rfl ?_
  refine am_B.get rfl rfl rfl (by first | assumption | exact gs_s (by first | assumption | exact gs_s (by first | assumption | exact gs_s (by assumption) | (refine gs_n (by decide) ?_; assumption)) | (refine gs_n (by decide) ?_; first | assumption | exact gs_s (by assumption) | (refine gs_n (by decide) ?_; assumption))) | (refine gs_n (by decide) ?_; first | assumption | exact gs_s (by first | assumption | exact gs_s (by assumption) | (refine gs_n (by decide) ?_; assumption)) | (refine gs_n (by decide) ?_; first | assumption | exact gs_s (by assumption) | (refine gs_n (by decide) ?_; assumption)))) rfl rfl ?_
  refine am_B.run (hp := false) (sp := []) 200 rfl ?_
  refine am_B.icmp_ne rfl rfl (fun z => absurd rfl z) (fun _ => ?_)
  refine am_B.run (hp := false) (sp := []) 200 rfl ?_
  refine am_B.callV (ci := 4) (n := 0) (as := []) rfl rfl rfl (ct_TR_setNoAlignment _ q sz tm (nI 1) lf wf mf pth hTR2) rfl rfl (by exact Nat.le_of_ble_eq_true rfl) rfl hTR2 rfl rfl (fun v h' z => ?_)
  obtain ⟨rfl, rfl⟩ := z
  rw [gs_ss]
  refine am_B.run (hp := false) (sp := []) 200 rfl ?_
  exact am_B.vret rfl rfl rfl ⟨rfl, rfl⟩
/-- old cells that aren't P are as before; there may be more cells -/
def am_gr (P : Nat → Prop) (h h' : am_H) : Prop := h.length ≤ h'.length ∧ ∀ a, a < h.length → ¬ P a → h'[a]? = h[a]?
theorem am_fr.gr {P : Nat → Prop} {h h' : am_H} (a : am_fr P h h') : am_gr P h h' := ⟨Nat.le_of_eq a.1.symm, fun x _ hx => a.2 x hx⟩
theorem am_gr.set {P : Nat → Prop} {h h' : am_H} (a : am_gr P h h') {q : Nat} (hq : P q ∨ h.length ≤ q) (x : am_C) : am_gr P h (h'.set q x) := by
  refine ⟨by rw [List.length_set]; exact a.1, fun y hl hy => ?_⟩
  have hne : q ≠ y := fun e => hq.elim (fun p => hy (e ▸ p)) (fun p => by omega)
  rw [List.getElem?_set_ne hne]
  exact a.2 y hl hy
theorem am_gr.push {P : Nat → Prop} {h h' : am_H} (a : am_gr P h h') (x : am_C) : am_gr P h (h' ++ [x]) := by
  refine ⟨by rw [List.length_append]; have := a.1; omega, fun y hl hy => ?_⟩
  rw [List.getElem?_append_left (by have := a.1; omega)]
  exact a.2 y hl hy
theorem am_gr.mono {P Q : Nat → Prop} {h h' : am_H} (a : am_gr P h h') (pq : ∀ x, P x → Q x) : am_gr Q h h' := ⟨a.1, fun x h1 h2 => a.2 x h1 fun p => h2 (pq x p)⟩
/-- what an alignment leaves behind -/
def alPost (h : am_H) (q n T sz l : Nat) (tm : Int32) (pth : Nat) (gl gf : Nat → Int32) (lc tl co : Nat → Nat) (h' : am_H) : Prop :=
  ∃ lcv wcv mcv pth' P' g', h'[28 + 3 * q]? = some (c_TR q (nI sz) tm (nI 1) (nI lcv) (nI wcv) (nI mcv) pth') ∧ h'[pth']? = some (ia P' g') ∧ P' ≤ 3600 ∧ mcv ≤ P' ∧ (pth' = pth ∨ pth' = h.length) ∧ alOK n T sz l gl gf lc tl co lcv wcv mcv g' ∧
    am_gr (fun a => pfC a ∨ a = 28 + 3 * q ∨ a = pth) h h' ∧ (∃ g, h'[15]? = some (ia 10 g)) ∧ rowsOK h'
set_option maxRecDepth 100000 in
set_option maxHeartbeats 4000000 in
theorem ct_PF_align (h : am_H) (q n T l sz : Nat) (pc ex tm lf wf mf : Int32) (pth P : Nat) (g : Nat → Int32) (gl gf gco gt : Nat → Int32) (lc co tl : Nat → Nat) (hn : n ≤ 200) (hT : T ≤ 10) (hl : l < n) (hsz : sz ≤ 8) (hwf : wfF n T gf) (hre : reachO n T gf)
    (hco : ∀ t, t < T → gco t = nI (co t) ∧ co t ≤ 9) (htl : ∀ i, i < sz → gt i = nI (tl i) ∧ tl i < 6) (hlc : ∀ i, i < 6 → lc i ≤ 9) (W : pfW h n T pc ex (nI l) gl gf lc) (h4 : h[4]? = some (ia 10 gco)) (h15 : ∃ g, h[15]? = some (ia 10 g)) (hrows : rowsOK h)
    (hTR : h[28 + 3 * q]? = some (c_TR q (nI sz) tm (nI 0) lf wf mf pth)) (hLB : h[29 + 3 * q]? = some (ia 8 gt)) (hPA : h[pth]? = some (ia P g)) (hP : P ≤ 3600) (hp0 : 26 ≤ pth) (hp1 : pth ≠ 28 + 3 * q) (hp2 : pth ≠ 29 + 3 * q) (hlen : 53 ≤ h.length) :
    am_Ct am_G0 m_PF_align 4 1 3600 [.ref 14, .ref (28 + 3 * q)] h (fun v h' => v = none ∧ alPost h q n T sz l tm pth gl gf lc tl co h') := by
  have hlt : 29 + 3 * q < h.length := (List.getElem?_eq_some_iff.mp hLB).1
  refine am_Ct.of (E := E_PF_align) e_PF_align (by decide) (Nat.le_of_ble_eq_true rfl) ?_
  refine am_B.run (hp := false) (sp := []) 200 rfl ?_
  refine am_B.get rfl rfl rfl (by first | assumption | exact gs_s (by first | assumption | exact gs_s (by first | assumption | exact gs_s (by assumption) | (refine gs_n (by decide) ?_; assumption)) | (refine gs_n (by decide) ?_; first | assumption | exact gs_s (by assumption) | (refine gs_n (by decide) ?_; assumption))) | (refine gs_n (by decide) ?_; first | assumption | exact gs_s (by first | assumption | exact gs_s (by assumption) | (refine gs_n (by decide) ?_; assumption)) | (refine gs_n (by decide) ?_; first | assumption | exact gs_s (by assumption) | (refine gs_n (by decide) ?_; assumption)))) rfl rfl ?_
  refine am_B.run (hp := false) (sp := []) 200 rfl ?_
  refine am_B.if_eq rfl rfl (fun _ => ?_) (fun z => absurd rfl z)
  refine am_B.run (hp := false) (sp := []) 200 rfl ?_
  refine am_B.put rfl rfl rfl hTR rfl (Nat.le_of_ble_eq_true rfl) rfl (fun q => by cases q) ?_
  show am_B _ _ _ _ _ _ (h.set (28 + 3 * q) (c_TR q (nI sz) tm (nI 1) lf wf mf pth)) _ _
  obtain ⟨h1, eh1⟩ : ∃ h1, h1 = h.set (28 + 3 * q) (c_TR q (nI sz) tm (nI 1) lf wf mf pth) := ⟨_, rfl⟩
  rw [← eh1]
  have k_TR : h1[28 + 3 * q]? = some (c_TR q (nI sz) tm (nI 1) lf wf mf pth) := by rw [eh1]; exact gs_s hTR
  have k_o : ∀ a x, a ≠ 28 + 3 * q → h[a]? = some x → h1[a]? = some x := fun a x ne hx => by rw [eh1]; exact gs_n (Ne.symm ne) hx
  have k_W : pfW h1 n T pc ex (nI l) gl gf lc := by rw [eh1]; exact W.set (Or.inl (by omega)) _
  have k_len : h1.length = h.length := by rw [eh1, List.length_set]
  have k_gr : am_gr (fun a => pfC a ∨ a = 28 + 3 * q ∨ a = pth) h h1 := by
    rw [eh1]
    exact am_gr.set (am_fr.rf _ h).gr (Or.inl (Or.inr (Or.inl rfl))) _
  have k_rows : rowsOK h1 := fun j hj => (hrows j hj).imp fun g z => k_o _ _ (by omega) z
  have k_15 : ∃ g, h1[15]? = some (ia 10 g) := h15.imp fun g z => k_o _ _ (by omega) z
  have k_W2 := k_W
  obtain ⟨h2, h3, h9, h12, h13, h14, h16⟩ := k_W2
  refine am_B.run (hp := false) (sp := []) 200 rfl ?_
  refine am_B.get rfl rfl rfl (by first | assumption | exact gs_s (by first | assumption | exact gs_s (by first | assumption | exact gs_s (by assumption) | (refine gs_n (by decide) ?_; assumption)) | (refine gs_n (by decide) ?_; first | assumption | exact gs_s (by assumption) | (refine gs_n (by decide) ?_; assumption))) | (refine gs_n (by decide) ?_; first | assumption | exact gs_s (by first | assumption | exact gs_s (by assumption) | (refine gs_n (by decide) ?_; assumption)) | (refine gs_n (by decide) ?_; first | assumption | exact gs_s (by assumption) | (refine gs_n (by decide) ?_; assumption)))) rfl rfl ?_
  refine am_B.run (hp := false) (sp := []) 200 rfl ?_
  refine am_B.get rfl rfl rfl (by first | assumption | exact gs_s (by first | assumption | exact gs_s (by first | assumption | exact gs_s (by assumption) | (refine gs_n (by decide) ?_; assumption)) | (refine gs_n (by decide) ?_; first | assumption | exact gs_s (by assumption) | (refine gs_n (by decide) ?_; assumption))) | (refine gs_n (by decide) ?_; first | assumption | exact gs_s (by first | assumption | exact gs_s (by assumption) | (refine gs_n (by decide) ?_; assumption)) | (refine gs_n (by decide) ?_; first | assumption | exact gs_s (by assumption) | (refine gs_n (by decide) ?_; assumption)))) rfl rfl ?_
  refine am_B.run (hp := false) (sp := []) 200 rfl ?_
  refine am_B.icmp_ne rfl rfl (fun _ => ?_) (fun z => absurd z (nI_neg1 (by omega)))
  refine am_B.run (hp := false) (sp := []) 200 rfl ?_
  refine am_B.callV (ci := 3) (n := 1) (as := [.ref (28 + 3 * q)]) rfl rfl rfl (ct_PF_weighAll h1 (28 + 3 * q) q n T l sz pc ex tm (nI 1) lf wf mf pth gl gf gco gt lc co tl rfl hn hT hl hsz hwf hco htl hlc k_W (k_o _ _ (by omega) h4) k_15 k_rows k_TR (k_o _ _ (by omega) hLB)) rfl rfl (by exact Nat.le_of_ble_eq_true rfl) rfl h14 rfl rfl (fun v h' z => ?_)
  obtain ⟨rfl, w, R, hw, I⟩ := z
  have o := I.ok hw (fun t ht => (hco t ht).2) (fun i hi => hlc _ (htl i hi).2)
  have b0 := o.near hre hl hn sz 0 (by omega)
  have b1 := o.near hre hl hn 0 sz (by omega)
  have b2 := o.small hn hsz (pos := 0) (m := 0) (Nat.zero_le _) (by omega) (by omega)
  have m_o : ∀ a x, ¬ pfC a → h1[a]? = some x → h'[a]? = some x := fun a x na hx => (I.1.2 a na).trans hx
  have m_TR : h'[28 + 3 * q]? = some (c_TR q (nI sz) tm (nI 1) lf wf mf pth) := m_o _ _ (by unfold pfC; omega) k_TR
  have m_LB : h'[29 + 3 * q]? = some (ia 8 gt) := m_o _ _ (by unfold pfC; omega) (k_o _ _ (by omega) hLB)
  have m_PA : h'[pth]? = some (ia P g) := m_o _ _ (by unfold pfC; omega) (k_o _ _ hp1 hPA)
  have m_gr : am_gr (fun a => pfC a ∨ a = 28 + 3 * q ∨ a = pth) h h' := ⟨by rw [I.1.1, k_len]; exact Nat.le_refl _, fun a h1' h2' => (I.1.2 a fun p => h2' (Or.inl p)).trans (k_gr.2 a h1' h2')⟩
  have m_len : h'.length = h.length := I.1.1.trans k_len
  -- with whatever stands in the trace's three numbers
  have G : ∀ a b c : Int32, pfW (h'.set (28 + 3 * q) (c_TR q (nI sz) tm (nI 1) a b c pth)) n T pc ex (nI l) gl gf lc ∧ (h'.set (28 + 3 * q) (c_TR q (nI sz) tm (nI 1) a b c pth))[28 + 3 * q]? = some (c_TR q (nI sz) tm (nI 1) a b c pth) ∧
      (h'.set (28 + 3 * q) (c_TR q (nI sz) tm (nI 1) a b c pth))[29 + 3 * q]? = some (ia 8 gt) ∧ (h'.set (28 + 3 * q) (c_TR q (nI sz) tm (nI 1) a b c pth))[pth]? = some (ia P g) ∧ (∀ i, i ≤ sz → (h'.set (28 + 3 * q) (c_TR q (nI sz) tm (nI 1) a b c pth))[17 + i]? = some (ia 200 fun k => nI (R i k))) ∧
      (h'.set (28 + 3 * q) (c_TR q (nI sz) tm (nI 1) a b c pth))[15]? = some (ia 10 fun t => nI (w t)) ∧ rowsOK (h'.set (28 + 3 * q) (c_TR q (nI sz) tm (nI 1) a b c pth)) :=
    fun a b c => ⟨(k_W.fr I.1).set (Or.inl (by omega)) _, gs_s m_TR, gs_n (by omega) m_LB, gs_n (by omega) m_PA, fun i hi => gs_n (by omega) (I.2.2.2.1 i (Nat.zero_le _) hi), gs_n (by omega) I.2.1, fun j hj => (I.2.2.1 j hj).imp fun g z => gs_n (by omega) z⟩
  obtain ⟨h2, h3, h9, h12, h13, h14, h16⟩ := k_W.fr I.1
  have m_r0 := I.2.2.2.1 0 (Nat.zero_le _) (Nat.zero_le _)
  refine am_B.run (hp := false) (sp := []) 200 rfl ?_
  refine am_B.get rfl rfl rfl (by first | assumption | exact gs_s (by first | assumption | exact gs_s (by first | assumption | exact gs_s (by assumption) | (refine gs_n (by decide) ?_; assumption)) | (refine gs_n (by decide) ?_; first | assumption | exact gs_s (by assumption) | (refine gs_n (by decide) ?_; assumption))) | (refine gs_n (by decide) ?_; first | assumption | exact gs_s (by first | assumption | exact gs_s (by assumption) | (refine gs_n (by decide) ?_; assumption)) | (refine gs_n (by decide) ?_; first | assumption | exact gs_s (by assumption) | (refine gs_n (by decide) ?_; assumption)))) rfl rfl ?_
  refine am_B.run (hp := false) (sp := []) 200 rfl ?_
  refine am_B.ald rfl h16 (vp_n (show 0 < 9 by decide) rfl) (rs_get (show 0 < 9 by decide)) ?_
  refine am_B.run (hp := false) (sp := []) 200 rfl ?_
  refine am_B.ald rfl m_r0 (vp_n (show 0 < 200 by decide) rfl) rfl ?_
  rw [nI_clamp (show 0 < 2 ^ 31 by decide)]
  refine am_B.run (hp := false) (sp := []) 200 rfl ?_
  refine am_B.idivK rfl ?_
  refine am_B.run (hp := false) (sp := []) 200 rfl ?_
  rw [pk_div (a := R 0 0) (d := 4096) (by omega) (by decide) (by decide)]
  refine am_B.put rfl rfl rfl m_TR rfl (Nat.le_of_ble_eq_true rfl) rfl (fun q => by cases q) ?_
  show am_B _ _ _ _ _ _ (h'.set (28 + 3 * q) (c_TR q (nI sz) tm (nI 1) (nI (R 0 0 / 4096)) wf mf pth)) _ _
  obtain ⟨n_W, n_TR, n_LB, n_PA, n_row, n_15, n_rows⟩ := G (nI (R 0 0 / 4096)) wf mf
  have n_r0 := n_row 0 (Nat.zero_le _)
  obtain ⟨h2, h3, h9, h12, h13, h14, h16⟩ := n_W
  refine am_B.run (hp := false) (sp := []) 200 rfl ?_
  refine am_B.get rfl rfl rfl (by first | assumption | exact gs_s (by first | assumption | exact gs_s (by first | assumption | exact gs_s (by assumption) | (refine gs_n (by decide) ?_; assumption)) | (refine gs_n (by decide) ?_; first | assumption | exact gs_s (by assumption) | (refine gs_n (by decide) ?_; assumption))) | (refine gs_n (by decide) ?_; first | assumption | exact gs_s (by first | assumption | exact gs_s (by assumption) | (refine gs_n (by decide) ?_; assumption)) | (refine gs_n (by decide) ?_; first | assumption | exact gs_s (by assumption) | (refine gs_n (by decide) ?_; assumption)))) rfl rfl ?_
  refine am_B.run (hp := false) (sp := []) 200 rfl ?_
  refine am_B.ald rfl h16 (vp_n (show 0 < 9 by decide) rfl) (rs_get (show 0 < 9 by decide)) ?_
  refine am_B.run (hp := false) (sp := []) 200 rfl ?_
  refine am_B.ald rfl n_r0 (vp_n (show 0 < 200 by decide) rfl) rfl ?_
  rw [nI_clamp (show 0 < 2 ^ 31 by decide)]
  refine am_B.run (hp := false) (sp := []) 200 rfl ?_
  refine am_B.iremK rfl ?_
  refine am_B.run (hp := false) (sp := []) 200 rfl ?_
  rw [pk_rem (a := R 0 0) (d := 4096) (by omega) (by decide) (by decide)]
  refine am_B.put rfl rfl rfl n_TR rfl (Nat.le_of_ble_eq_true rfl) rfl (fun q => by cases q) ?_
  rw [gs_ss]
  show am_B _ _ _ _ _ _ (h'.set (28 + 3 * q) (c_TR q (nI sz) tm (nI 1) (nI (R 0 0 / 4096)) wf (nI (R 0 0 % 4096)) pth)) _ _
  obtain ⟨n_W, n_TR, n_LB, n_PA, n_row, n_15, n_rows⟩ := G (nI (R 0 0 / 4096)) wf (nI (R 0 0 % 4096))
  have n_r0 := n_row sz (Nat.le_refl _)
  obtain ⟨h2, h3, h9, h12, h13, h14, h16⟩ := n_W
  refine am_B.run (hp := false) (sp := []) 200 rfl ?_
  refine am_B.get rfl rfl rfl (by first | assumption | exact gs_s (by first | assumption | exact gs_s (by first | assumption | exact gs_s (by assumption) | (refine gs_n (by decide) ?_; assumption)) | (refine gs_n (by decide) ?_; first | assumption | exact gs_s (by assumption) | (refine gs_n (by decide) ?_; assumption))) | (refine gs_n (by decide) ?_; first | assumption | exact gs_s (by first | assumption | exact gs_s (by assumption) | (refine gs_n (by decide) ?_; assumption)) | (refine gs_n (by decide) ?_; first | assumption | exact gs_s (by assumption) | (refine gs_n (by decide) ?_; assumption)))) rfl rfl ?_
  refine am_B.run (hp := false) (sp := []) 200 rfl ?_
  refine am_B.get rfl rfl rfl (by first | assumption | exact gs_s (by first | assumption | exact gs_s (by first | assumption | exact gs_s (by assumption) | (refine gs_n (by decide) ?_; assumption)) | (refine gs_n (by decide) ?_; first | assumption | exact gs_s (by assumption) | (refine gs_n (by decide) ?_; assumption))) | (refine gs_n (by decide) ?_; first | assumption | exact gs_s (by first | assumption | exact gs_s (by assumption) | (refine gs_n (by decide) ?_; assumption)) | (refine gs_n (by decide) ?_; first | assumption | exact gs_s (by assumption) | (refine gs_n (by decide) ?_; assumption)))) rfl rfl ?_
  refine am_B.run (hp := false) (sp := []) 200 rfl ?_
  refine am_B.ald rfl h16 (vp_n (show sz < 9 by omega) rfl) (rs_get (show sz < 9 by omega)) ?_
  refine am_B.run (hp := false) (sp := []) 200 rfl ?_
  refine am_B.ald rfl n_r0 (vp_n (show 0 < 200 by decide) rfl) rfl ?_
  rw [nI_clamp (show 0 < 2 ^ 31 by decide)]
  refine am_B.run (hp := false) (sp := []) 200 rfl ?_
  refine am_B.idivK rfl ?_
  refine am_B.run (hp := false) (sp := []) 200 rfl ?_
  rw [pk_div (a := R sz 0) (d := 4096) (by omega) (by decide) (by decide)]
  refine am_B.put rfl rfl rfl n_TR rfl (Nat.le_of_ble_eq_true rfl) rfl (fun q => by cases q) ?_
  rw [gs_ss]
  show am_B _ _ _ _ _ _ (h'.set (28 + 3 * q) (c_TR q (nI sz) tm (nI 1) (nI (R 0 0 / 4096)) (nI (R sz 0 / 4096)) (nI (R 0 0 % 4096)) pth)) _ _
  have L : ∀ d i, i + d = sz → am_B E_PF_align (am_rm 4 1 3600) (am_ZM E_PF_align 1 3600 fun v h' => v = none ∧ alPost h q n T sz l tm pth gl gf lc tl co h') 87 [some (.ref 14), some (.ref (28 + 3 * q)), some (.int (nI i))] [] (h'.set (28 + 3 * q) (c_TR q (nI sz) tm (nI 1) (nI (R 0 0 / 4096)) (nI (R sz 0 / 4096 + sm (fun i => lc (tl i)) i)) (nI (R 0 0 % 4096)) pth)) 1 3600 := by
    intro d
    induction d with
    | zero =>
      intro i hi
      have hiz : i = sz := by omega
      rw [hiz]
      obtain ⟨n_W, n_TR, n_LB, n_PA, n_row, n_15, n_rows⟩ := G (nI (R 0 0 / 4096)) (nI (R sz 0 / 4096 + sm (fun i => lc (tl i)) sz)) (nI (R 0 0 % 4096))
      have n_gr : am_gr (fun a => pfC a ∨ a = 28 + 3 * q ∨ a = pth) h (h'.set (28 + 3 * q) (c_TR q (nI sz) tm (nI 1) (nI (R 0 0 / 4096)) (nI (R sz 0 / 4096 + sm (fun i => lc (tl i)) sz)) (nI (R 0 0 % 4096)) pth)) := m_gr.set (Or.inl (Or.inr (Or.inl rfl))) _
      have n_len : (h'.set (28 + 3 * q) (c_TR q (nI sz) tm (nI 1) (nI (R 0 0 / 4096)) (nI (R sz 0 / 4096 + sm (fun i => lc (tl i)) sz)) (nI (R 0 0 % 4096)) pth)).length = h.length := by rw [List.length_set]; exact m_len
      generalize h'.set (28 + 3 * q) (c_TR q (nI sz) tm (nI 1) (nI (R 0 0 / 4096)) (nI (R sz 0 / 4096 + sm (fun i => lc (tl i)) sz)) (nI (R 0 0 % 4096)) pth) = Hh at n_W n_TR n_LB n_PA n_row n_15 n_rows n_gr n_len ⊢
      have n_W2 := n_W
      obtain ⟨h2, h3, h9, h12, h13, h14, h16⟩ := n_W
      refine am_B.run (hp := false) (sp := []) 200 rfl ?_
      refine am_B.get rfl rfl rfl (by first | assumption | exact gs_s (by first | assumption | exact gs_s (by first | assumption | exact gs_s (by assumption) | (refine gs_n (by decide) ?_; assumption)) | (refine gs_n (by decide) ?_; first | assumption | exact gs_s (by assumption) | (refine gs_n (by decide) ?_; assumption))) | (refine gs_n (by decide) ?_; first | assumption | exact gs_s (by first | assumption | exact gs_s (by assumption) | (refine gs_n (by decide) ?_; assumption)) | (refine gs_n (by decide) ?_; first | assumption | exact gs_s (by assumption) | (refine gs_n (by decide) ?_; assumption)))) rfl rfl ?_
      refine am_B.run (hp := false) (sp := []) 200 rfl ?_
      refine am_B.icmp_ge rfl rfl (fun _ => ?_) (fun z => absurd (nI_le (Nat.le_refl sz) (by omega)) z)
      refine am_B.run (hp := false) (sp := []) 200 rfl ?_
      refine am_B.get rfl rfl rfl (by first | assumption | exact gs_s (by first | assumption | exact gs_s (by first | assumption | exact gs_s (by assumption) | (refine gs_n (by decide) ?_; assumption)) | (refine gs_n (by decide) ?_; first | assumption | exact gs_s (by assumption) | (refine gs_n (by decide) ?_; assumption))) | (refine gs_n (by decide) ?_; first | assumption | exact gs_s (by first | assumption | exact gs_s (by assumption) | (refine gs_n (by decide) ?_; assumption)) | (refine gs_n (by decide) ?_; first | assumption | exact gs_s (by assumption) | (refine gs_n (by decide) ?_; assumption)))) rfl rfl ?_
      refine am_B.run (hp := false) (sp := []) 200 rfl ?_
      refine am_B.callV (ci := 4) (n := 1) (as := [.int (nI (R 0 0 % 4096))]) rfl rfl rfl (ct_TR_makeRoom _ q (R 0 0 % 4096) P (nI sz) tm (nI 1) _ _ _ pth g n_TR n_PA hP (by omega)) rfl rfl (by exact Nat.le_of_ble_eq_true rfl) rfl n_TR rfl rfl (fun v h'' z => ?_)
      obtain ⟨rfl, ⟨hk, rfl⟩ | ⟨P', hk, hP', rfl⟩⟩ := z
      · refine am_B.run (hp := false) (sp := []) 200 rfl ?_
        refine am_B.callV (ci := 3) (n := 1) (as := [.ref (28 + 3 * q)]) rfl rfl rfl (ct_PF_walk _ (28 + 3 * q) q n T sz l pc ex (nI l) tm (nI 1) _ _ pth P g gl gf gt lc tl w R rfl hn (by omega) hT hsz hwf htl hlc n_W2 n_15 n_row o (by omega) n_TR n_LB n_PA hk (by omega) hp0 hp1 hp2) rfl rfl (by exact Nat.le_of_ble_eq_true rfl) rfl h14 rfl rfl (fun v h''' z => ?_)
        obtain ⟨rfl, g', ps, ms, rfl, wk⟩ := z
        refine am_B.run (hp := false) (sp := []) 200 rfl ?_
        refine am_B.vret rfl rfl rfl ⟨rfl, _, _, _, pth, P, g', gs_n hp1 n_TR, gs_s n_PA, hP, hk, Or.inl rfl, ⟨w, R, ps, ms, o, hw, by omega, by omega, rfl, rfl, rfl, wk⟩, n_gr.set (Or.inl (Or.inr (Or.inr rfl))) _, ⟨_, gs_n (by omega) n_15⟩, fun j hj => (n_rows j hj).imp fun g z => gs_n (by omega) z⟩
      · have l1 : 28 + 3 * q < Hh.length := by omega
        have X : ∀ a x, a ≠ 28 + 3 * q → Hh[a]? = some x → ((Hh ++ [ia P' fun _ => 0]).set (28 + 3 * q) (c_TR q (nI sz) tm (nI 1) (nI (R 0 0 / 4096)) (nI (R sz 0 / 4096 + sm (fun i => lc (tl i)) sz)) (nI (R 0 0 % 4096)) Hh.length))[a]? = some x := fun a x ne hx => gs_n (Ne.symm ne) (ga_o hx)
        have o_W : pfW ((Hh ++ [ia P' fun _ => 0]).set (28 + 3 * q) (c_TR q (nI sz) tm (nI 1) (nI (R 0 0 / 4096)) (nI (R sz 0 / 4096 + sm (fun i => lc (tl i)) sz)) (nI (R 0 0 % 4096)) Hh.length)) n T pc ex (nI l) gl gf lc := ⟨X _ _ (by omega) h2, X _ _ (by omega) h3, X _ _ (by omega) h9, X _ _ (by omega) h12, X _ _ (by omega) h13, X _ _ (by omega) h14, X _ _ (by omega) h16⟩
        have o_14 := o_W.2.2.2.2.2.1
        have o_TR : ((Hh ++ [ia P' fun _ => 0]).set (28 + 3 * q) (c_TR q (nI sz) tm (nI 1) (nI (R 0 0 / 4096)) (nI (R sz 0 / 4096 + sm (fun i => lc (tl i)) sz)) (nI (R 0 0 % 4096)) Hh.length))[28 + 3 * q]? = some (c_TR q (nI sz) tm (nI 1) (nI (R 0 0 / 4096)) (nI (R sz 0 / 4096 + sm (fun i => lc (tl i)) sz)) (nI (R 0 0 % 4096)) Hh.length) := gs_s (ga_o n_TR)
        have o_PA : ((Hh ++ [ia P' fun _ => 0]).set (28 + 3 * q) (c_TR q (nI sz) tm (nI 1) (nI (R 0 0 / 4096)) (nI (R sz 0 / 4096 + sm (fun i => lc (tl i)) sz)) (nI (R 0 0 % 4096)) Hh.length))[Hh.length]? = some (ia P' fun _ => 0) := gs_n (by omega) (ga_n Hh _)
        refine am_B.run (hp := false) (sp := []) 200 rfl ?_
        refine am_B.callV (ci := 3) (n := 1) (as := [.ref (28 + 3 * q)]) rfl rfl rfl (ct_PF_walk _ (28 + 3 * q) q n T sz l pc ex (nI l) tm (nI 1) _ _ Hh.length P' (fun _ => 0) gl gf gt lc tl w R rfl hn (by omega) hT hsz hwf htl hlc o_W (X _ _ (by omega) n_15) (fun i hi => X _ _ (by omega) (n_row i hi)) o (by omega) o_TR (X _ _ (by omega) n_LB) o_PA hk (by omega) (by omega) (by omega) (by omega)) rfl rfl (by exact Nat.le_of_ble_eq_true rfl) rfl o_14 rfl rfl (fun v h''' z => ?_)
        obtain ⟨rfl, g', ps, ms, rfl, wk⟩ := z
        refine am_B.run (hp := false) (sp := []) 200 rfl ?_
        refine am_B.vret rfl rfl rfl ⟨rfl, _, _, _, Hh.length, P', g', gs_n (by omega) o_TR, gs_s o_PA, hP', hk, Or.inr n_len, ⟨w, R, ps, ms, o, hw, by omega, by omega, rfl, rfl, rfl, wk⟩, ((n_gr.push _).set (Or.inl (Or.inr (Or.inl rfl))) _).set (Or.inr (by omega)) _, ⟨_, gs_n (by omega) (X _ _ (by omega) n_15)⟩, fun j hj => (n_rows j hj).imp fun g z => gs_n (by omega) (X _ _ (by omega) z)⟩
    | succ d ih =>
      intro i hi
      have i8 : i < 8 := by omega
      have hti := htl i (by omega)
      obtain ⟨n_W, n_TR, n_LB, n_PA, n_row, n_15, n_rows⟩ := G (nI (R 0 0 / 4096)) (nI (R sz 0 / 4096 + sm (fun i => lc (tl i)) i)) (nI (R 0 0 % 4096))
      obtain ⟨h2, h3, h9, h12, h13, h14, h16⟩ := n_W
      refine am_B.run (hp := false) (sp := []) 200 rfl ?_
      refine am_B.get rfl rfl rfl (by first | assumption | exact gs_s (by first | assumption | exact gs_s (by first | assumption | exact gs_s (by assumption) | (refine gs_n (by decide) ?_; assumption)) | (refine gs_n (by decide) ?_; first | assumption | exact gs_s (by assumption) | (refine gs_n (by decide) ?_; assumption))) | (refine gs_n (by decide) ?_; first | assumption | exact gs_s (by first | assumption | exact gs_s (by assumption) | (refine gs_n (by decide) ?_; assumption)) | (refine gs_n (by decide) ?_; first | assumption | exact gs_s (by assumption) | (refine gs_n (by decide) ?_; assumption)))) rfl rfl ?_
      refine am_B.run (hp := false) (sp := []) 200 rfl ?_
      refine am_B.icmp_ge rfl rfl (fun z => absurd z (nI_ge (by omega) (by omega))) (fun _ => ?_)
      refine am_B.run (hp := false) (sp := []) 200 rfl ?_
      refine am_B.get rfl rfl rfl (by first | assumption | exact gs_s (by first | assumption | exact gs_s (by first | assumption | exact gs_s (by assumption) | (refine gs_n (by decide) ?_; assumption)) | (refine gs_n (by decide) ?_; first | assumption | exact gs_s (by assumption) | (refine gs_n (by decide) ?_; assumption))) | (refine gs_n (by decide) ?_; first | assumption | exact gs_s (by first | assumption | exact gs_s (by assumption) | (refine gs_n (by decide) ?_; assumption)) | (refine gs_n (by decide) ?_; first | assumption | exact gs_s (by assumption) | (refine gs_n (by decide) ?_; assumption)))) rfl rfl ?_
      refine am_B.run (hp := false) (sp := []) 200 rfl ?_
      refine am_B.get rfl rfl rfl (by first | assumption | exact gs_s (by first | assumption | exact gs_s (by first | assumption | exact gs_s (by assumption) | (refine gs_n (by decide) ?_; assumption)) | (refine gs_n (by decide) ?_; first | assumption | exact gs_s (by assumption) | (refine gs_n (by decide) ?_; assumption))) | (refine gs_n (by decide) ?_; first | assumption | exact gs_s (by first | assumption | exact gs_s (by assumption) | (refine gs_n (by decide) ?_; assumption)) | (refine gs_n (by decide) ?_; first | assumption | exact gs_s (by assumption) | (refine gs_n (by decide) ?_; assumption)))) rfl rfl ?_
      refine am_B.run (hp := false) (sp := []) 200 rfl ?_
      refine am_B.get rfl rfl rfl (by first | assumption | exact gs_s (by first | assumption | exact gs_s (by first | assumption | exact gs_s (by assumption) | (refine gs_n (by decide) ?_; assumption)) | (refine gs_n (by decide) ?_; first | assumption | exact gs_s (by assumption) | (refine gs_n (by decide) ?_; assumption))) | (refine gs_n (by decide) ?_; first | assumption | exact gs_s (by first | assumption | exact gs_s (by assumption) | (refine gs_n (by decide) ?_; assumption)) | (refine gs_n (by decide) ?_; first | assumption | exact gs_s (by assumption) | (refine gs_n (by decide) ?_; assumption)))) rfl rfl ?_
      refine am_B.run (hp := false) (sp := []) 200 rfl ?_
      refine am_B.ald rfl n_LB (vp_n i8 rfl) rfl ?_
      rw [nI_clamp (show i < 2 ^ 31 by omega), hti.1]
      refine am_B.ald rfl h13 (vp_n hti.2 rfl) rfl ?_
      rw [nI_clamp (show tl i < 2 ^ 31 by have := hti.2; omega)]
      refine am_B.run (hp := false) (sp := []) 200 rfl ?_
      rw [nI_add]
      refine am_B.put rfl rfl rfl n_TR rfl (Nat.le_of_ble_eq_true rfl) rfl (fun q => by cases q) ?_
      rw [gs_ss]
      refine am_B.run (hp := false) (sp := [87]) 200 rfl ?_
      rw [nI_add]
      have e := ih (i + 1) (by omega)
      rw [show R sz 0 / 4096 + sm (fun i => lc (tl i)) (i + 1) = R sz 0 / 4096 + sm (fun i => lc (tl i)) i + lc (tl i) from (Nat.add_assoc _ _ _).symm] at e
      exact e
  refine am_B.run (hp := false) (sp := [87]) 200 rfl ?_
  exact L sz 0 (by omega)
