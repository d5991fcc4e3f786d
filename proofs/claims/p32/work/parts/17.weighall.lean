/-! WEIGHING ALL, and the steps to the last marking -/
/-- cells that aren't P are as before -/
def am_fr (P : Nat → Prop) (h h' : am_H) : Prop := h'.length = h.length ∧ ∀ a, ¬ P a → h'[a]? = h[a]?
theorem am_fr.rf (P : Nat → Prop) (h : am_H) : am_fr P h h := ⟨rfl, fun _ _ => rfl⟩
theorem am_fr.trans {P : Nat → Prop} {h h' h'' : am_H} (a : am_fr P h h') (b : am_fr P h' h'') : am_fr P h h'' := ⟨b.1.trans a.1, fun x hx => (b.2 x hx).trans (a.2 x hx)⟩
theorem am_fr.set {P : Nat → Prop} {h h' : am_H} (a : am_fr P h h') {q : Nat} (hq : P q) (x : am_C) : am_fr P h (h'.set q x) := by
  refine ⟨by rw [List.length_set]; exact a.1, fun y hy => ?_⟩
  have hne : q ≠ y := fun e => hy (e ▸ hq)
  rw [List.getElem?_set_ne hne]
  exact a.2 y hy
/-- the cells of the finder's weights and rows -/
def pfC (a : Nat) : Prop := a = 15 ∨ (17 ≤ a ∧ a ≤ 25)
theorem pfW.fr {h h' : am_H} {n T : Nat} {pc ex la : Int32} {gl gf : Nat → Int32} {lc : Nat → Nat} (W : pfW h n T pc ex la gl gf lc) (f : am_fr pfC h h') : pfW h' n T pc ex la gl gf lc := by
  obtain ⟨h2, h3, h9, h12, h13, h14, h16⟩ := W
  have k : ∀ a, a < 17 → a ≠ 15 → h'[a]? = h[a]? := fun a h1 h2 => f.2 a fun q => by unfold pfC at q; omega
  exact ⟨(k 2 (by decide) (by decide)).trans h2, (k 3 (by decide) (by decide)).trans h3, (k 9 (by decide) (by decide)).trans h9, (k 12 (by decide) (by decide)).trans h12, (k 13 (by decide) (by decide)).trans h13, (k 14 (by decide) (by decide)).trans h14, (k 16 (by decide) (by decide)).trans h16⟩
def rowsOK (h : am_H) : Prop := ∀ j, j < 9 → ∃ g, h[17 + j]? = some (ia 200 g)
theorem rowsOK.set {h : am_H} (r : rowsOK h) {q : Nat} {g : Nat → Int32} (hq : 17 ≤ q ∨ q < 17) (hx : q < 17 ∨ ∃ g0, h[q]? = some (ia 200 g0)) : rowsOK (h.set q (ia 200 g)) ∨ q < 17 := by
  rcases hx with hx | ⟨g0, hx⟩
  · exact Or.inr hx
  · refine Or.inl fun j hj => ?_
    by_cases z : q = 17 + j
    · subst z
      exact ⟨g, gs_s hx⟩
    · obtain ⟨g1, h1⟩ := r j hj
      exact ⟨g1, gs_n z h1⟩
/-- rows from j on are weighed -/
def wI (n T sz l : Nat) (gl gf : Nat → Int32) (lc tl : Nat → Nat) (w : Nat → Nat) (h h' : am_H) (R : Nat → Nat → Nat) (j : Nat) : Prop :=
  am_fr pfC h h' ∧ h'[15]? = some (ia 10 fun t => nI (w t)) ∧ rowsOK h' ∧ (∀ i, j ≤ i → i ≤ sz → h'[17 + i]? = some (ia 200 fun k => nI (R i k))) ∧ fixOK n T gf w (endB l) (R sz) ∧
  ∀ i, j ≤ i → i < sz → rowE n T gl gf w (tl i) (lc (tl i) * 4096 + 1) (R (i + 1)) (R i)
theorem wI.far {n T sz l : Nat} {gl gf : Nat → Int32} {lc tl w : Nat → Nat} {h h' : am_H} {R : Nat → Nat → Nat} {j : Nat} (I : wI n T sz l gl gf lc tl w h h' R j) {i : Nat} (h1 : j ≤ i) (h2 : i ≤ sz) : ∀ m, m < n → R i m ≤ 1073741824 := by
  intro m hm
  by_cases z : i = sz
  · subst z
    have := I.2.2.2.2.1.2.1 m hm
    unfold endB at this
    split at this <;> omega
  · exact (I.2.2.2.2.2 i h1 (by omega)).far m hm
theorem fixOK.wgt {n T : Nat} {gf : Nat → Int32} {w w' b D : Nat → Nat} (hD : fixOK n T gf w b D) (he : ∀ t, t < T → w t = w' t) : fixOK n T gf w' b D := by
  obtain ⟨h1, h2, h3, h4⟩ := hD
  refine ⟨fun m hm t k hd => (he t hd.1) ▸ h1 m hm t k hd, h2, fun m hm => (h3 m hm).imp id fun ⟨t, k, q1, q2⟩ => ⟨t, k, q1, (he t q1.1) ▸ q2⟩, fun D' q1 q2 => h4 D' q1 fun m hm t k hd => (he t hd.1).symm ▸ q2 m hm t k hd⟩
set_option maxRecDepth 100000 in
set_option maxHeartbeats 4000000 in
theorem ct_PF_weighAll (h : am_H) (tr q n T l sz : Nat) (pc ex tm al lf wf mf : Int32) (pth : Nat) (gl gf gco gt : Nat → Int32) (lc co tl : Nat → Nat) (htr : tr = 28 + 3 * q) (hn : n ≤ 200) (hT : T ≤ 10) (hl : l < n) (hsz : sz ≤ 8) (hwf : wfF n T gf)
    (hco : ∀ t, t < T → gco t = nI (co t) ∧ co t ≤ 9) (htl : ∀ i, i < sz → gt i = nI (tl i) ∧ tl i < 6) (hlc : ∀ i, i < 6 → lc i ≤ 9) (W : pfW h n T pc ex (nI l) gl gf lc) (h4 : h[4]? = some (ia 10 gco)) (h15 : ∃ g, h[15]? = some (ia 10 g)) (hrows : rowsOK h)
    (hTR : h[tr]? = some (c_TR q (nI sz) tm al lf wf mf pth)) (hLB : h[29 + 3 * q]? = some (ia 8 gt)) :
    am_Ct am_G0 m_PF_weighAll 3 0 0 [.ref 14, .ref tr] h (fun v h' => v = none ∧ ∃ w R, (∀ t, t < T → w t = co t * 4096 + 1) ∧ wI n T sz l gl gf lc tl w h h' R 0) := by
  subst htr
  obtain ⟨g0, h15⟩ := h15
  obtain ⟨w0, rfl⟩ := ex_nI g0
  obtain ⟨w, hwdef⟩ : ∃ w : Nat → Nat → Nat, w = fun i t => if t < i then co t * 4096 + 1 else w0 t := ⟨_, rfl⟩
  have hw0 : w 0 = w0 := by
    subst hwdef
    funext t
    exact if_neg (by omega)
  have hwT : ∀ t, t < T → w T t = co t * 4096 + 1 := fun t ht => by
    subst hwdef
    exact if_pos ht
  have hwu : ∀ i, i < T → upd (fun t => nI (w i t)) i (nI (co i * 4096 + 1)) = fun t => nI (w (i + 1) t) := fun i hi => by
    subst hwdef
    funext t
    unfold upd
    by_cases z : t = i
    · subst z; simp
    · by_cases z2 : t < i
      · simp [z, z2, show t < i + 1 by omega]
      · simp [z, z2, show ¬ t < i + 1 by omega]
  have hw1 : ∀ t, t < T → 1 ≤ w T t := fun t ht => by rw [hwT t ht]; omega
  have hw9 : ∀ t, t < T → w T t ≤ 36865 := fun t ht => by
    rw [hwT t ht]
    have := (hco t ht).2
    omega
  refine am_Ct.of (E := E_PF_weighAll) e_PF_weighAll (by decide) (Nat.le_of_ble_eq_true rfl) ?_
  -- the rows, from behind
  have L2 : ∀ (j : Nat) (h' : am_H) (R : Nat → Nat → Nat), j ≤ sz → wI n T sz l gl gf lc tl (w T) h h' R j → am_B E_PF_weighAll (am_rm 3 0 0) (am_ZM E_PF_weighAll 0 0 (fun v h' => v = none ∧ ∃ w R, (∀ t, t < T → w t = co t * 4096 + 1) ∧ wI n T sz l gl gf lc tl w h h' R 0)) 60 [some (.ref 14), some (.ref (28 + 3 * q)), some (.int (nI j - nI 1))] [] h' 0 0 := by
    intro j
    induction j with
    | zero =>
      intro h' R hj I
      refine am_B.run (hp := false) (sp := []) 200 rfl ?_
      refine am_B.if_lt rfl rfl (fun _ => ?_) (fun z => absurd (by decide) z)
      refine am_B.run (hp := false) (sp := []) 200 rfl ?_
      exact am_B.vret rfl rfl rfl ⟨rfl, w T, R, hwT, I⟩
    | succ j ih =>
      intro h' R hj I
      have W' := W.fr I.1
      obtain ⟨h2, h3, h9, h12, h13, h14, h16⟩ := W'
      have hTR' : h'[28 + 3 * q]? = some (c_TR q (nI sz) tm al lf wf mf pth) := (I.1.2 _ (fun z => by unfold pfC at z; omega)).trans hTR
      have hLB' : h'[29 + 3 * q]? = some (ia 8 gt) := (I.1.2 _ (fun z => by unfold pfC at z; omega)).trans hLB
      obtain ⟨g1, hr1⟩ := I.2.2.1 j (by omega)
      have hr2 := I.2.2.2.1 (j + 1) (by omega) (by omega)
      have hr3 : h'[17 + j + 1]? = some (ia 200 fun k => nI (R (j + 1) k)) := hr2
      have hlab := htl j (by omega)
      refine am_B.run (hp := false) (sp := []) 200 rfl ?_
      refine am_B.if_lt rfl rfl (fun z => ?_) (fun _ => ?_)
      · rw [nI_prd] at z
        exact absurd z (nI_nlt (Nat.zero_le j) (by omega))
      rw [nI_prd]
      refine am_B.run (hp := false) (sp := []) 200 rfl ?_
      refine am_B.get rfl rfl rfl (by first | assumption | exact gs_s (by first | assumption | exact gs_s (by first | assumption | exact gs_s (by assumption) | (refine gs_n (by decide) ?_; assumption)) | (refine gs_n (by decide) ?_; first | assumption | exact gs_s (by assumption) | (refine gs_n (by decide) ?_; assumption))) | (refine gs_n (by decide) ?_; first | assumption | exact gs_s (by first | assumption | exact gs_s (by assumption) | (refine gs_n (by decide) ?_; assumption)) | (refine gs_n (by decide) ?_; first | assumption | exact gs_s (by assumption) | (refine gs_n (by decide) ?_; assumption)))) rfl rfl ?_
      refine am_B.run (hp := false) (sp := []) 200 rfl ?_
      refine am_B.ald rfl h16 (vp_n (show j < 9 by omega) rfl) (rs_get (show j < 9 by omega)) ?_
      refine am_B.run (hp := false) (sp := []) 200 rfl ?_
      refine am_B.get rfl rfl rfl (by first | assumption | exact gs_s (by first | assumption | exact gs_s (by first | assumption | exact gs_s (by assumption) | (refine gs_n (by decide) ?_; assumption)) | (refine gs_n (by decide) ?_; first | assumption | exact gs_s (by assumption) | (refine gs_n (by decide) ?_; assumption))) | (refine gs_n (by decide) ?_; first | assumption | exact gs_s (by first | assumption | exact gs_s (by assumption) | (refine gs_n (by decide) ?_; assumption)) | (refine gs_n (by decide) ?_; first | assumption | exact gs_s (by assumption) | (refine gs_n (by decide) ?_; assumption)))) rfl rfl ?_
      refine am_B.run (hp := false) (sp := []) 200 rfl ?_
      rw [nI_add]
      refine am_B.ald rfl h16 (vp_n (show j + 1 < 9 by omega) rfl) (rs_get (show j + 1 < 9 by omega)) ?_
      refine am_B.run (hp := false) (sp := []) 200 rfl ?_
      refine am_B.get rfl rfl rfl (by first | assumption | exact gs_s (by first | assumption | exact gs_s (by first | assumption | exact gs_s (by assumption) | (refine gs_n (by decide) ?_; assumption)) | (refine gs_n (by decide) ?_; first | assumption | exact gs_s (by assumption) | (refine gs_n (by decide) ?_; assumption))) | (refine gs_n (by decide) ?_; first | assumption | exact gs_s (by first | assumption | exact gs_s (by assumption) | (refine gs_n (by decide) ?_; assumption)) | (refine gs_n (by decide) ?_; first | assumption | exact gs_s (by assumption) | (refine gs_n (by decide) ?_; assumption)))) rfl rfl ?_
      refine am_B.run (hp := false) (sp := []) 200 rfl ?_
      refine am_B.ald rfl hLB' (vp_n (show j < 8 by omega) rfl) rfl ?_
      rw [nI_clamp (show j < 2 ^ 31 by omega), hlab.1]
      refine am_B.run (hp := false) (sp := []) 200 rfl ?_
      refine am_B.callV (ci := 3) (n := 3) (as := [.ref (17 + j), .ref (17 + (j + 1)), .int (nI (tl j))]) rfl rfl rfl (ct_PF_weighEvent h' (17 + j) (17 + (j + 1)) n T (tl j) pc ex (nI l) gl gf g1 lc (w T) (R (j + 1)) (by omega) (by omega) (by omega) hn hT hlab.2 (hlc _ hlab.2) hwf hw9 hw1 (I.far (by omega) (by omega)) (W.fr I.1) I.2.1 hr1 hr2) rfl rfl (by exact Nat.le_of_ble_eq_true rfl) rfl h14 rfl rfl (fun v h'' z => ?_)
      obtain ⟨rfl, r, rfl, hr⟩ := z
      refine am_B.run (hp := false) (sp := [60]) 200 rfl ?_
      have e := ih (h'.set (17 + j) (ia 200 fun i => nI (r i))) (fun i => if i = j then r else R i) (by omega) ?_
      · rw [nI_dec] at e
        exact e
      · obtain ⟨i1, i2, i3, i4, i5, i6⟩ := I
        refine ⟨i1.set (Or.inr (by omega)) _, gs_n (by omega) i2, ?_, fun i q1 q2 => ?_, ?_, fun i q1 q2 => ?_⟩
        · exact (i3.set (Or.inl (by omega)) (Or.inr ⟨g1, hr1⟩)).resolve_right (by omega)
        · by_cases z : i = j
          · subst z
            simp only [if_true]
            exact gs_s hr1
          · simp only [z, if_false]
            exact gs_n (by omega) (i4 i (by omega) q2)
        · simp only [show sz ≠ j by omega, if_false]
          exact i5
        · by_cases z : i = j
          · subst z
            simp only [if_true, show i + 1 ≠ i by omega, if_false]
            exact hr
          · simp only [z, if_false, show i + 1 ≠ j by omega]
            exact i6 i (by omega) q2
  -- what transitions weigh
  have L1 : ∀ d i, i + d = T → am_B E_PF_weighAll (am_rm 3 0 0) (am_ZM E_PF_weighAll 0 0 (fun v h' => v = none ∧ ∃ w R, (∀ t, t < T → w t = co t * 4096 + 1) ∧ wI n T sz l gl gf lc tl w h h' R 0)) 2 [some (.ref 14), some (.ref (28 + 3 * q)), some (.int (nI i))] [] (h.set 15 (ia 10 fun t => nI (w i t))) 0 0 := by
    intro d
    induction d with
    | zero =>
      intro i hi
      obtain rfl : i = T := by omega
      have W' := W.set (Or.inr rfl) (ia 10 fun t => nI (w i t))
      have F : am_fr pfC h (h.set 15 (ia 10 fun t => nI (w i t))) := (am_fr.rf pfC h).set (Or.inl rfl) _
      have h15' := gs_s (c := ia 10 fun t => nI (w i t)) h15
      have hTR' : (h.set 15 (ia 10 fun t => nI (w i t)))[28 + 3 * q]? = some (c_TR q (nI sz) tm al lf wf mf pth) := gs_n (by omega) hTR
      have hrows' : rowsOK (h.set 15 (ia 10 fun t => nI (w i t))) := fun j hj => (hrows j hj).imp fun g z => gs_n (by omega) z
      obtain ⟨g1, hr1⟩ := hrows' sz (by omega)
      have W2 := W'
      obtain ⟨h2, h3, h9, h12, h13, h14, h16⟩ := W'
      refine am_B.run (hp := false) (sp := []) 200 rfl ?_
      refine am_B.get rfl rfl rfl (by first | assumption | exact gs_s (by first | assumption | exact gs_s (by first | assumption | exact gs_s (by assumption) | (refine gs_n (by decide) ?_; assumption)) | (refine gs_n (by decide) ?_; first | assumption | exact gs_s (by assumption) | (refine gs_n (by decide) ?_; assumption))) | (refine gs_n (by decide) ?_; first | assumption | exact gs_s (by first | assumption | exact gs_s (by assumption) | (refine gs_n (by decide) ?_; assumption)) | (refine gs_n (by decide) ?_; first | assumption | exact gs_s (by assumption) | (refine gs_n (by decide) ?_; assumption)))) rfl rfl ?_
      refine am_B.run (hp := false) (sp := []) 200 rfl ?_
      refine am_B.get rfl rfl rfl (by first | assumption | exact gs_s (by first | assumption | exact gs_s (by first | assumption | exact gs_s (by assumption) | (refine gs_n (by decide) ?_; assumption)) | (refine gs_n (by decide) ?_; first | assumption | exact gs_s (by assumption) | (refine gs_n (by decide) ?_; assumption))) | (refine gs_n (by decide) ?_; first | assumption | exact gs_s (by first | assumption | exact gs_s (by assumption) | (refine gs_n (by decide) ?_; assumption)) | (refine gs_n (by decide) ?_; first | assumption | exact gs_s (by assumption) | (refine gs_n (by decide) ?_; assumption)))) rfl rfl ?_
      refine am_B.run (hp := false) (sp := []) 200 rfl ?_
      refine am_B.icmp_ge rfl rfl (fun _ => ?_) (fun z => absurd (nI_le (by omega) (by omega)) z)
      refine am_B.run (hp := false) (sp := []) 200 rfl ?_
      refine am_B.get rfl rfl rfl (by first | assumption | exact gs_s (by first | assumption | exact gs_s (by first | assumption | exact gs_s (by assumption) | (refine gs_n (by decide) ?_; assumption)) | (refine gs_n (by decide) ?_; first | assumption | exact gs_s (by assumption) | (refine gs_n (by decide) ?_; assumption))) | (refine gs_n (by decide) ?_; first | assumption | exact gs_s (by first | assumption | exact gs_s (by assumption) | (refine gs_n (by decide) ?_; assumption)) | (refine gs_n (by decide) ?_; first | assumption | exact gs_s (by assumption) | (refine gs_n (by decide) ?_; assumption)))) rfl rfl ?_
      refine am_B.run (hp := false) (sp := []) 200 rfl ?_
      refine am_B.get rfl rfl rfl (by first | assumption | exact gs_s (by first | assumption | exact gs_s (by first | assumption | exact gs_s (by assumption) | (refine gs_n (by decide) ?_; assumption)) | (refine gs_n (by decide) ?_; first | assumption | exact gs_s (by assumption) | (refine gs_n (by decide) ?_; assumption))) | (refine gs_n (by decide) ?_; first | assumption | exact gs_s (by first | assumption | exact gs_s (by assumption) | (refine gs_n (by decide) ?_; assumption)) | (refine gs_n (by decide) ?_; first | assumption | exact gs_s (by assumption) | (refine gs_n (by decide) ?_; assumption)))) rfl rfl ?_
      refine am_B.run (hp := false) (sp := []) 200 rfl ?_
      refine am_B.ald rfl h16 (vp_n (show sz < 9 by omega) rfl) (rs_get (show sz < 9 by omega)) ?_
      refine am_B.run (hp := false) (sp := []) 200 rfl ?_
      refine am_B.callV (ci := 3) (n := 1) (as := [.ref (17 + sz)]) rfl rfl rfl (ct_PF_weighEnd _ (17 + sz) n i l pc ex gl gf g1 lc (w i) (by omega) hn hT hl hwf hw9 hw1 W2 h15' hr1) rfl rfl (by exact Nat.le_of_ble_eq_true rfl) rfl h14 rfl rfl (fun v h'' z => ?_)
      obtain ⟨rfl, r, rfl, hr⟩ := z
      have hTR2 := gs_n (a := 17 + sz) (c := ia 200 fun i => nI (r i)) (by omega) hTR'
      refine am_B.run (hp := false) (sp := []) 200 rfl ?_
      refine am_B.get rfl rfl rfl (by first | assumption | exact gs_s (by first | assumption | exact gs_s (by first | assumption | exact gs_s (by assumption) | (refine gs_n (by decide) ?_; assumption)) | (refine gs_n (by decide) ?_; first | assumption | exact gs_s (by assumption) | (refine gs_n (by decide) ?_; assumption))) | (refine gs_n (by decide) ?_; first | assumption | exact gs_s (by first | assumption | exact gs_s (by assumption) | (refine gs_n (by decide) ?_; assumption)) | (refine gs_n (by decide) ?_; first | assumption | exact gs_s (by assumption) | (refine gs_n (by decide) ?_; assumption)))) rfl rfl ?_
      refine am_B.run (hp := false) (sp := [60]) 200 rfl ?_
      refine L2 sz _ (fun _ => r) (Nat.le_refl _) ⟨F.set (Or.inr (by omega)) _, gs_n (by omega) h15', ?_, fun j q1 q2 => ?_, hr, fun j q1 q2 => absurd q1 (by omega)⟩
      · exact (hrows'.set (Or.inl (by omega)) (Or.inr ⟨g1, hr1⟩)).resolve_right (by omega)
      · obtain rfl : j = sz := by omega
        exact gs_s hr1
    | succ d ih =>
      intro i hi
      have W' := W.set (Or.inr rfl) (ia 10 fun t => nI (w i t))
      have h15' := gs_s (c := ia 10 fun t => nI (w i t)) h15
      have h4' := gs_n (a := 15) (c := ia 10 fun t => nI (w i t)) (by decide) h4
      obtain ⟨h2, h3, h9, h12, h13, h14, h16⟩ := W'
      have hci := hco i (by omega)
      have hi10 : i < 10 := by omega
      refine am_B.run (hp := false) (sp := []) 200 rfl ?_
      refine am_B.get rfl rfl rfl (by first | assumption | exact gs_s (by first | assumption | exact gs_s (by first | assumption | exact gs_s (by assumption) | (refine gs_n (by decide) ?_; assumption)) | (refine gs_n (by decide) ?_; first | assumption | exact gs_s (by assumption) | (refine gs_n (by decide) ?_; assumption))) | (refine gs_n (by decide) ?_; first | assumption | exact gs_s (by first | assumption | exact gs_s (by assumption) | (refine gs_n (by decide) ?_; assumption)) | (refine gs_n (by decide) ?_; first | assumption | exact gs_s (by assumption) | (refine gs_n (by decide) ?_; assumption)))) rfl rfl ?_
      refine am_B.run (hp := false) (sp := []) 200 rfl ?_
      refine am_B.get rfl rfl rfl (by first | assumption | exact gs_s (by first | assumption | exact gs_s (by first | assumption | exact gs_s (by assumption) | (refine gs_n (by decide) ?_; assumption)) | (refine gs_n (by decide) ?_; first | assumption | exact gs_s (by assumption) | (refine gs_n (by decide) ?_; assumption))) | (refine gs_n (by decide) ?_; first | assumption | exact gs_s (by first | assumption | exact gs_s (by assumption) | (refine gs_n (by decide) ?_; assumption)) | (refine gs_n (by decide) ?_; first | assumption | exact gs_s (by assumption) | (refine gs_n (by decide) ?_; assumption)))) rfl rfl ?_
      refine am_B.run (hp := false) (sp := []) 200 rfl ?_
      refine am_B.icmp_ge rfl rfl (fun z => absurd z (nI_ge (by omega) (by omega))) (fun _ => ?_)
      refine am_B.run (hp := false) (sp := []) 200 rfl ?_
      refine am_B.get rfl rfl rfl (by first | assumption | exact gs_s (by first | assumption | exact gs_s (by first | assumption | exact gs_s (by assumption) | (refine gs_n (by decide) ?_; assumption)) | (refine gs_n (by decide) ?_; first | assumption | exact gs_s (by assumption) | (refine gs_n (by decide) ?_; assumption))) | (refine gs_n (by decide) ?_; first | assumption | exact gs_s (by first | assumption | exact gs_s (by assumption) | (refine gs_n (by decide) ?_; assumption)) | (refine gs_n (by decide) ?_; first | assumption | exact gs_s (by assumption) | (refine gs_n (by decide) ?_; assumption)))) rfl rfl ?_
      refine am_B.run (hp := false) (sp := []) 200 rfl ?_
      refine am_B.get rfl rfl rfl (by first | assumption | exact gs_s (by first | assumption | exact gs_s (by first | assumption | exact gs_s (by assumption) | (refine gs_n (by decide) ?_; assumption)) | (refine gs_n (by decide) ?_; first | assumption | exact gs_s (by assumption) | (refine gs_n (by decide) ?_; assumption))) | (refine gs_n (by decide) ?_; first | assumption | exact gs_s (by first | assumption | exact gs_s (by assumption) | (refine gs_n (by decide) ?_; assumption)) | (refine gs_n (by decide) ?_; first | assumption | exact gs_s (by assumption) | (refine gs_n (by decide) ?_; assumption)))) rfl rfl ?_
      refine am_B.run (hp := false) (sp := []) 200 rfl ?_
      refine am_B.get rfl rfl rfl (by first | assumption | exact gs_s (by first | assumption | exact gs_s (by first | assumption | exact gs_s (by assumption) | (refine gs_n (by decide) ?_; assumption)) | (refine gs_n (by decide) ?_; first | assumption | exact gs_s (by assumption) | (refine gs_n (by decide) ?_; assumption))) | (refine gs_n (by decide) ?_; first | assumption | exact gs_s (by first | assumption | exact gs_s (by assumption) | (refine gs_n (by decide) ?_; assumption)) | (refine gs_n (by decide) ?_; first | assumption | exact gs_s (by assumption) | (refine gs_n (by decide) ?_; assumption)))) rfl rfl ?_
      refine am_B.run (hp := false) (sp := []) 200 rfl ?_
      refine am_B.ald rfl h4' (vp_n hi10 rfl) rfl ?_
      rw [nI_clamp (show i < 2 ^ 31 by omega), hci.1]
      refine am_B.run (hp := false) (sp := []) 200 rfl ?_
      have e : nI (co i) * nI 4096 = nI (co i * 4096) := (Int32.ofNat_mul _ _).symm
      rw [e, nI_add]
      refine am_B.ast rfl h15' (vp_n hi10 rfl) rfl ?_
      rw [nI_clamp (show i < 2 ^ 31 by omega), gs_ss, hwu i (by omega)]
      refine am_B.run (hp := false) (sp := [2]) 200 rfl ?_
      rw [nI_add]
      exact ih (i + 1) (by omega)
  refine am_B.run (hp := false) (sp := [2]) 200 rfl ?_
  have e := L1 T 0 (by omega)
  rw [hw0, gs_id h15] at e
  exact e
set_option maxRecDepth 100000 in
set_option maxHeartbeats 4000000 in
theorem ct_PF_stepsToLast (h : am_H) (n T l m : Nat) (pc ex : Int32) (gl gf : Nat → Int32) (lc : Nat → Nat) (hn : n ≤ 200) (hT : T ≤ 10) (hl : l < n) (hm : m < n) (hwf : wfF n T gf) (W : pfW h n T pc ex (nI l) gl gf lc) (h15 : ∃ g, h[15]? = some (ia 10 g)) (hrows : rowsOK h) :
    am_Ct am_G0 m_PF_stepsToLast 3 0 0 [.ref 14, .int (nI m)] h (fun v h' => ∃ r, v = some (.int (if r m = 1073741824 then -1 else nI (r m))) ∧ r m ≤ 1073741824 ∧ am_fr pfC h h' ∧ (∃ g, h'[15]? = some (ia 10 g)) ∧ rowsOK h' ∧ fixOK n T gf (fun _ => 1) (endB l) r) := by
  obtain ⟨g0, h15⟩ := h15
  refine am_Ct.of (E := E_PF_stepsToLast) e_PF_stepsToLast (by decide) (Nat.le_of_ble_eq_true rfl) ?_
  have h14 := W.2.2.2.2.2.1
  refine am_B.run (hp := false) (sp := []) 200 rfl ?_
  refine am_B.get rfl rfl rfl (by first | assumption | exact gs_s (by first | assumption | exact gs_s (by first | assumption | exact gs_s (by assumption) | (refine gs_n (by decide) ?_; assumption)) | (refine gs_n (by decide) ?_; first | assumption | exact gs_s (by assumption) | (refine gs_n (by decide) ?_; assumption))) | (refine gs_n (by decide) ?_; first | assumption | exact gs_s (by first | assumption | exact gs_s (by assumption) | (refine gs_n (by decide) ?_; assumption)) | (refine gs_n (by decide) ?_; first | assumption | exact gs_s (by assumption) | (refine gs_n (by decide) ?_; assumption)))) rfl rfl ?_
  refine am_B.run (hp := false) (sp := []) 200 rfl ?_
  refine am_B.callS (ci := 0) (n := 2) (as := [.ref 15, .int (nI 1)]) rfl rfl rfl (ct_AR_fill 0 _ 15 10 _ (nI 1) h15 (by decide)) rfl rfl (by exact Nat.le_of_ble_eq_true rfl) rfl rfl rfl (fun v h' z => ?_)
  obtain ⟨rfl, rfl⟩ := z
  have e1 : ∃ w : Nat → Nat, (fun j => if j < 10 then nI 1 else g0 j) = (fun t => nI (w t)) ∧ ∀ t, t < 10 → w t = 1 := by
    obtain ⟨w0, rfl⟩ := ex_nI g0
    refine ⟨fun t => if t < 10 then 1 else w0 t, funext fun t => ?_, fun t ht => if_pos ht⟩
    by_cases z : t < 10 <;> simp [z]
  obtain ⟨w, e1, hw⟩ := e1
  rw [e1]
  have W1 := W.set (Or.inr rfl) (ia 10 fun t => nI (w t))
  have h15' := gs_s (c := ia 10 fun t => nI (w t)) h15
  have F : am_fr pfC h (h.set 15 (ia 10 fun t => nI (w t))) := (am_fr.rf pfC h).set (Or.inl rfl) _
  have hrows' : rowsOK (h.set 15 (ia 10 fun t => nI (w t))) := fun j hj => (hrows j hj).imp fun g z => gs_n (by omega) z
  obtain ⟨g1, hr1⟩ := hrows' 0 (by decide)
  have h16 := W1.2.2.2.2.2.2
  have h14 := W1.2.2.2.2.2.1
  refine am_B.run (hp := false) (sp := []) 200 rfl ?_
  refine am_B.get rfl rfl rfl (by first | assumption | exact gs_s (by first | assumption | exact gs_s (by first | assumption | exact gs_s (by assumption) | (refine gs_n (by decide) ?_; assumption)) | (refine gs_n (by decide) ?_; first | assumption | exact gs_s (by assumption) | (refine gs_n (by decide) ?_; assumption))) | (refine gs_n (by decide) ?_; first | assumption | exact gs_s (by first | assumption | exact gs_s (by assumption) | (refine gs_n (by decide) ?_; assumption)) | (refine gs_n (by decide) ?_; first | assumption | exact gs_s (by assumption) | (refine gs_n (by decide) ?_; assumption)))) rfl rfl ?_
  refine am_B.run (hp := false) (sp := []) 200 rfl ?_
  refine am_B.ald rfl h16 (vp_n (show 0 < 9 by decide) rfl) (rs_get (show 0 < 9 by decide)) ?_
  refine am_B.run (hp := false) (sp := []) 200 rfl ?_
  refine am_B.callV (ci := 3) (n := 1) (as := [.ref (17 + 0)]) rfl rfl rfl (ct_PF_weighEnd _ (17 + 0) n T l pc ex gl gf g1 lc w (by decide) hn hT hl hwf (fun t ht => by rw [hw t (by omega)]; decide) (fun t ht => by rw [hw t (by omega)]; decide) W1 h15' hr1) rfl rfl (by exact Nat.le_of_ble_eq_true rfl) rfl h14 rfl rfl (fun v h'' z => ?_)
  obtain ⟨rfl, r, rfl, hr⟩ := z
  have hb : r m ≤ 1073741824 := by
    have := hr.2.1 m hm
    unfold endB at this
    split at this <;> omega
  have W2 := W1.set (ro := 17) (Or.inl (by decide)) (ia 200 fun i => nI (r i))
  have hr2 := gs_s (c := ia 200 fun i => nI (r i)) hr1
  have h16 := W2.2.2.2.2.2.2
  have h14 := W2.2.2.2.2.2.1
  have hfix : fixOK n T gf (fun _ => 1) (endB l) r := hr.wgt fun t ht => hw t (by omega)
  have hpost := And.intro hb (And.intro (F.set (q := 17) (Or.inr (by decide)) (ia 200 fun i => nI (r i))) (And.intro (⟨_, gs_n (by decide) h15'⟩ : ∃ g, ((h.set 15 (ia 10 fun t => nI (w t))).set 17 (ia 200 fun i => nI (r i)))[15]? = some (ia 10 g)) (And.intro ((hrows'.set (q := 17) (g := fun i => nI (r i)) (Or.inl (by decide)) (Or.inr ⟨g1, hr1⟩)).resolve_right (by decide)) hfix)))
  refine am_B.run (hp := false) (sp := []) 200 rfl ?_
  refine am_B.get rfl rfl rfl (by first | assumption | exact gs_s (by first | assumption | exact gs_s (by first | assumption | exact gs_s (by assumption) | (refine gs_n (by decide) ?_; assumption)) | (refine gs_n (by decide) ?_; first | assumption | exact gs_s (by assumption) | (refine gs_n (by decide) ?_; assumption))) | (refine gs_n (by decide) ?_; first | assumption | exact gs_s (by first | assumption | exact gs_s (by assumption) | (refine gs_n (by decide) ?_; assumption)) | (refine gs_n (by decide) ?_; first | assumption | exact gs_s (by assumption) | (refine gs_n (by decide) ?_; assumption)))) rfl rfl ?_
  refine am_B.run (hp := false) (sp := []) 200 rfl ?_
  refine am_B.ald rfl h16 (vp_n (show 0 < 9 by decide) rfl) (rs_get (show 0 < 9 by decide)) ?_
  refine am_B.run (hp := false) (sp := []) 200 rfl ?_
  refine am_B.ald rfl hr2 (vp_n (show m < 200 by omega) rfl) rfl ?_
  rw [nI_clamp (show m < 2 ^ 31 by omega)]
  refine am_B.run (hp := false) (sp := []) 200 rfl ?_
  refine am_B.icmp_ne rfl rfl (fun z => ?_) (fun z => ?_)
  · have hne : r m ≠ 1073741824 := fun q => z (congrArg nI q)
    refine am_B.run (hp := false) (sp := []) 200 rfl ?_
    refine am_B.get rfl rfl rfl (by first | assumption | exact gs_s (by first | assumption | exact gs_s (by first | assumption | exact gs_s (by assumption) | (refine gs_n (by decide) ?_; assumption)) | (refine gs_n (by decide) ?_; first | assumption | exact gs_s (by assumption) | (refine gs_n (by decide) ?_; assumption))) | (refine gs_n (by decide) ?_; first | assumption | exact gs_s (by first | assumption | exact gs_s (by assumption) | (refine gs_n (by decide) ?_; assumption)) | (refine gs_n (by decide) ?_; first | assumption | exact gs_s (by assumption) | (refine gs_n (by decide) ?_; assumption)))) rfl rfl ?_
    refine am_B.run (hp := false) (sp := []) 200 rfl ?_
    refine am_B.ald rfl h16 (vp_n (show 0 < 9 by decide) rfl) (rs_get (show 0 < 9 by decide)) ?_
    refine am_B.run (hp := false) (sp := []) 200 rfl ?_
    refine am_B.ald rfl hr2 (vp_n (show m < 200 by omega) rfl) rfl ?_
    rw [nI_clamp (show m < 2 ^ 31 by omega)]
    refine am_B.run (hp := false) (sp := []) 200 rfl ?_
    exact am_B.iret rfl rfl rfl ⟨r, by rw [if_neg hne], hpost⟩
  · have he : r m = 1073741824 := nI_inj (by omega) (by decide) z
    refine am_B.run (hp := false) (sp := []) 200 rfl ?_
    exact am_B.iret rfl rfl rfl ⟨r, by rw [if_pos he], hpost⟩
