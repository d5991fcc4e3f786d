/-! THE LAW'S SMALL METHODS: they catch -/
abbrev la (g : Nat → Int64) : am_C := .inl (2, 1, .inr (.inl g))
abbrev da (g : Nat → UInt64) : am_C := .inl (3, 1, .inr (.inr (.inr (.inl g))))
set_option maxRecDepth 100000 in
theorem lk_S : Jvm.Cond.classLink "TraceAlignerLaw" 13 "java/lang/IllegalStateException" ∈ am_big := List.mem_of_getElem? (i := 286) rfl
set_option maxRecDepth 100000 in
theorem lk_A : Jvm.Cond.classLink "TraceAlignerLaw" 19 "java/lang/IllegalArgumentException" ∈ am_big := List.mem_of_getElem? (i := 353) rfl
set_option maxRecDepth 100000 in
theorem lk_O : Jvm.Cond.classLink "TraceAlignerLaw" 25 "java/lang/IndexOutOfBoundsException" ∈ am_big := List.mem_of_getElem? (i := 382) rfl
/-- the law's own cells and the reference's are as they were, what was put out aside -/
def oL (h h' : am_H) : Prop := h.length ≤ h'.length ∧ ∀ a, a < h.length → (a = 0 ∨ (53 ≤ a ∧ a ≠ 69 ∧ a ≠ 70)) → h'[a]? = h[a]?
theorem oL.xk {h h' : am_H} (k : xk h h') : oL h h' := ⟨by rw [k.1]; exact Nat.le_refl _, fun a _ q => k.2 a (by omega)⟩
theorem oL.set {h h' : am_H} (k : oL h h') {b : Nat} (hb : b = 69 ∨ b = 70) (y : am_C) : oL h (h'.set b y) := ⟨by rw [List.length_set]; exact k.1, fun a ha q => by rw [List.getElem?_set_ne (by omega)]; exact k.2 a ha q⟩
theorem oL.rep {h h' : am_H} (k : oL h h') (u : am_H) : oL h (h' ++ u) := ⟨by rw [List.length_append]; have := k.1; omega, fun a ha q => by rw [List.getElem?_append_left (by have := k.1; omega)]; exact k.2 a ha q⟩
theorem xF.calm {h : am_H} (X : xF h) : calm h := ⟨X.2.2.2.2.2.2.2.2.2.2.2.2.2.2.2.2.2.1, ⟨_, _, X.2.2.2.2.2.2.2.1⟩, fun i hi => ⟨_, _, _, _, _, _, X.2.2.2.2.2.2.2.2.2.2.2.2.2.2.2.2.2.2.2.1 i hi⟩⟩
def sQ (h : am_H) (w : Int64) : Option Value → am_H → Prop := fun v h' => v = some (.int (nI 0)) ∧ oL h h' ∧ ∃ g, h'[69]? = some (la g) ∧ g 0 = w
def dQ (h : am_H) (w : UInt64) : Option Value → am_H → Prop := fun v h' => v = some (.int (nI 0)) ∧ oL h h' ∧ ∃ g, h'[70]? = some (da g) ∧ g 0 = w
def tQ (h : am_H) (k : Nat) : Option Value → am_H → Prop := fun v h' => v = some (.int (nI k)) ∧ oL h h'
set_option maxRecDepth 100000 in
set_option maxHeartbeats 4000000 in
theorem ls_addPlace (h : am_H) (X : xF h) (g0 : Nat → Int64) (h69 : h[69]? = some (la g0)) : am_CtW am_G0 m_LW_addPlace [(0, 8, 11, 13)] 9 1 6 [.ref 1, .ref 69] h (sQ h (nI 0).toInt64) := by
  have h1 := X.2.1
  refine am_CtW.of (E := E_LW_addPlace) e_LW_addPlace (by decide) (Nat.le_of_ble_eq_true rfl) ?_
  refine am_B.run (hp := false) (sp := []) 200 rfl ?_
  refine am_B.callV (rc := 1) (rs := 6) (ci := 0) (n := 0) (as := []) rfl rfl rfl (ct_TA_addPlace h 0 (nI 0) (nI 0) (nI 0) (by decide) h1 X.2.2.1 X.calm) rfl rfl (by exact Nat.le_of_ble_eq_true rfl) rfl h1 rfl rfl (fun v h' z => ?_)
  obtain ⟨rfl, rfl⟩ := z
  have xk1 := (xk.rf h).set (a := 2) (by decide) (c_NT (nI (0 + 1)) (nI 0))
  have hc : _ = some (la g0) := (xk1.2 69 (Or.inr (by decide))).trans h69
  refine am_B.run (hp := false) (sp := []) 200 rfl ?_
  refine am_B.ast rfl hc (vp_n (show 0 < 1 by decide) rfl) rfl ?_
  rw [nI_clamp (show 0 < 2 ^ 31 by decide)]
  refine am_B.run (hp := false) (sp := []) 200 rfl ?_
  exact am_B.toW (am_B.iret rfl rfl rfl ⟨rfl, (oL.xk xk1).set (Or.inl rfl) _, _, gs_s hc, rfl⟩)
set_option maxRecDepth 100000 in
set_option maxHeartbeats 4000000 in
theorem ls_addTransition (h : am_H) (X : xF h) (x : Int32) (hx : x = -1 ∨ ∃ l, l < 6 ∧ x = nI l) (g0 : Nat → Int64) (h69 : h[69]? = some (la g0)) : am_CtW am_G0 m_LW_addTransition [(0, 9, 12, 19), (0, 9, 15, 13)] 9 1 6 [.ref 1, .int x, .ref 69] h (sQ h (nI 0).toInt64) := by
  have h1 := X.2.1
  refine am_CtW.of (E := E_LW_addTransition) e_LW_addTransition (by decide) (Nat.le_of_ble_eq_true rfl) ?_
  refine am_B.run (hp := false) (sp := []) 200 rfl ?_
  refine am_B.callV (rc := 1) (rs := 6) (ci := 0) (n := 1) (as := [.int x]) rfl rfl rfl (ct_TA_addTransition h 0 (nI 0) (nI 0) (nI 0) x (fun _ => 0) (fun _ => 0) (by decide) hx h1 X.2.2.1 X.2.2.2.1 X.2.2.2.2.1 X.calm) rfl rfl (by exact Nat.le_of_ble_eq_true rfl) rfl h1 rfl rfl (fun v h' z => ?_)
  obtain ⟨rfl, rfl⟩ := z
  have xk1 := (((xk.rf h).set (a := 3) (by decide) (ia 10 (upd (fun _ => 0) 0 x))).set (a := 4) (by decide) (ia 10 (upd (fun _ => 0) 0 (if x = -1 then nI 0 else nI 1)))).set (a := 2) (by decide) (c_NT (nI 0) (nI (0 + 1)))
  have hc : _ = some (la g0) := (xk1.2 69 (Or.inr (by decide))).trans h69
  refine am_B.run (hp := false) (sp := []) 200 rfl ?_
  refine am_B.ast rfl hc (vp_n (show 0 < 1 by decide) rfl) rfl ?_
  rw [nI_clamp (show 0 < 2 ^ 31 by decide)]
  refine am_B.run (hp := false) (sp := []) 200 rfl ?_
  exact am_B.toW (am_B.iret rfl rfl rfl ⟨rfl, (oL.xk xk1).set (Or.inl rfl) _, _, gs_s hc, rfl⟩)
set_option maxRecDepth 100000 in
set_option maxHeartbeats 4000000 in
theorem ls_addTransitionB (h : am_H) (X : xF h) (a : Int32) (ha : xbad a 6) (hm : ¬ a = -1) : am_CtW am_G0 m_LW_addTransition [(0, 9, 12, 19), (0, 9, 15, 13)] 9 1 6 [.ref 1, .int a, .ref 69] h (tQ h 1) := by
  have h1 := X.2.1
  refine am_CtW.of (E := E_LW_addTransition) e_LW_addTransition (by decide) (Nat.le_of_ble_eq_true rfl) ?_
  refine am_B.run (hp := false) (sp := []) 200 rfl ?_
  refine am_B.callVC (rc := 0) (rs := 0) (ci := 0) (n := 1) (as := [.int a]) rfl rfl rfl (xx_addTransition h X a ha hm) rfl rfl (by exact Nat.le_of_ble_eq_true rfl) rfl h1 rfl rfl (fun _ _ z => z.elim) (fun En h' z => ?_)
  obtain ⟨rfl, d, rfl⟩ := z
  refine ⟨[], [(0, 9, 15, 13)], (0, 9, 12, 19), "java/lang/IllegalArgumentException", _, 3, rfl, (fun z hz => by cases hz), ⟨Nat.le_of_ble_eq_true rfl, Nat.le_of_ble_eq_true rfl⟩, by decide, lk_A, List.mem_of_getElem? (i := 1) rfl, rfl, Or.inl ⟨⟨3, by decide⟩, rfl, rfl⟩, rfl, ?_⟩
  refine am_B.run (hp := false) (sp := []) 200 rfl ?_
  exact am_B.toW (am_B.iret rfl rfl rfl ⟨rfl, (oL.xk (xk.rf h)).rep _⟩)
set_option maxRecDepth 100000 in
set_option maxHeartbeats 4000000 in
theorem ls_link (h : am_H) (X : xF h) (a b c d : Int32) : am_CtW am_G0 m_LW_link [(0, 21, 24, 25)] 9 1 6 [.ref 1, .int a, .int b, .int c, .int d, .ref 69] h (tQ h 1) := by
  have h1 := X.2.1
  refine am_CtW.of (E := E_LW_link) e_LW_link (by decide) (Nat.le_of_ble_eq_true rfl) ?_
  refine am_B.run (hp := false) (sp := []) 200 rfl ?_
  refine am_B.callVC (rc := 0) (rs := 0) (ci := 0) (n := 4) (as := [.int a, .int b, .int c, .int d]) rfl rfl rfl (xx_link h X a b c d) rfl rfl (by exact Nat.le_of_ble_eq_true rfl) rfl h1 rfl rfl (fun _ _ z => z.elim) (fun En h' z => ?_)
  obtain ⟨rfl, d, rfl⟩ := z
  refine ⟨[], [], (0, 21, 24, 25), "java/lang/IndexOutOfBoundsException", _, 6, rfl, (fun z hz => by cases hz), ⟨Nat.le_of_ble_eq_true rfl, Nat.le_of_ble_eq_true rfl⟩, by decide, lk_O, List.mem_of_getElem? (i := 2) rfl, rfl, Or.inr rfl, rfl, ?_⟩
  refine am_B.run (hp := false) (sp := []) 200 rfl ?_
  exact am_B.toW (am_B.iret rfl rfl rfl ⟨rfl, (oL.xk (xk.rf h)).rep _⟩)
set_option maxRecDepth 100000 in
set_option maxHeartbeats 4000000 in
theorem ls_setTokens (h : am_H) (X : xF h) (a b c : Int32) : am_CtW am_G0 m_LW_setTokens [(0, 12, 15, 25), (0, 12, 19, 19)] 9 1 6 [.ref 1, .int a, .int b, .int c, .ref 69] h (tQ h 1) := by
  have h1 := X.2.1
  refine am_CtW.of (E := E_LW_setTokens) e_LW_setTokens (by decide) (Nat.le_of_ble_eq_true rfl) ?_
  refine am_B.run (hp := false) (sp := []) 200 rfl ?_
  refine am_B.callVC (rc := 0) (rs := 0) (ci := 0) (n := 3) (as := [.int a, .int b, .int c]) rfl rfl rfl (xx_setTokens h X a b c) rfl rfl (by exact Nat.le_of_ble_eq_true rfl) rfl h1 rfl rfl (fun _ _ z => z.elim) (fun En h' z => ?_)
  obtain ⟨rfl, d, rfl⟩ := z
  refine ⟨[], [(0, 12, 19, 19)], (0, 12, 15, 25), "java/lang/IndexOutOfBoundsException", _, 5, rfl, (fun z hz => by cases hz), ⟨Nat.le_of_ble_eq_true rfl, Nat.le_of_ble_eq_true rfl⟩, by decide, lk_O, List.mem_of_getElem? (i := 2) rfl, rfl, Or.inr rfl, rfl, ?_⟩
  refine am_B.run (hp := false) (sp := []) 200 rfl ?_
  exact am_B.toW (am_B.iret rfl rfl rfl ⟨rfl, (oL.xk (xk.rf h)).rep _⟩)
set_option maxRecDepth 100000 in
set_option maxHeartbeats 4000000 in
theorem ls_count0 (h : am_H) (X : xF h) (g0 : Nat → Int64) (h69 : h[69]? = some (la g0)) : am_CtW am_G0 m_LW_count [(0, 9, 12, 25)] 9 1 6 [.ref 1, .int (nI 0), .ref 69] h (sQ h (nI 0).toInt64) := by
  have h1 := X.2.1
  refine am_CtW.of (E := E_LW_count) e_LW_count (by decide) (Nat.le_of_ble_eq_true rfl) ?_
  refine am_B.run (hp := false) (sp := []) 200 rfl ?_
  refine am_B.callV (rc := 1) (rs := 6) (ci := 0) (n := 1) (as := [.int (nI 0)]) rfl rfl rfl (ct_TA_count 1 h 0 (nI 0) (nI 0) (nI 0) (nI 0) (by decide) h1 X.2.2.1) rfl rfl (by exact Nat.le_of_ble_eq_true rfl) rfl h1 rfl rfl (fun v h' z => ?_)
  obtain ⟨rfl, rfl⟩ := z
  have xk1 := xk.rf h'
  have hc : _ = some (la g0) := (xk1.2 69 (Or.inr (by decide))).trans h69
  refine am_B.run (hp := false) (sp := []) 200 rfl ?_
  refine am_B.ast rfl hc (vp_n (show 0 < 1 by decide) rfl) rfl ?_
  rw [nI_clamp (show 0 < 2 ^ 31 by decide)]
  refine am_B.run (hp := false) (sp := []) 200 rfl ?_
  exact am_B.toW (am_B.iret rfl rfl rfl ⟨rfl, (oL.xk xk1).set (Or.inl rfl) _, _, gs_s hc, rfl⟩)
set_option maxRecDepth 100000 in
set_option maxHeartbeats 4000000 in
theorem ls_count1 (h : am_H) (X : xF h) (g0 : Nat → Int64) (h69 : h[69]? = some (la g0)) : am_CtW am_G0 m_LW_count [(0, 9, 12, 25)] 9 1 6 [.ref 1, .int (nI 1), .ref 69] h (sQ h (nI 0).toInt64) := by
  have h1 := X.2.1
  refine am_CtW.of (E := E_LW_count) e_LW_count (by decide) (Nat.le_of_ble_eq_true rfl) ?_
  refine am_B.run (hp := false) (sp := []) 200 rfl ?_
  refine am_B.callV (rc := 1) (rs := 6) (ci := 0) (n := 1) (as := [.int (nI 1)]) rfl rfl rfl (ct_TA_count 1 h 1 (nI 0) (nI 0) (nI 0) (nI 0) (by decide) h1 X.2.2.1) rfl rfl (by exact Nat.le_of_ble_eq_true rfl) rfl h1 rfl rfl (fun v h' z => ?_)
  obtain ⟨rfl, rfl⟩ := z
  have xk1 := xk.rf h'
  have hc : _ = some (la g0) := (xk1.2 69 (Or.inr (by decide))).trans h69
  refine am_B.run (hp := false) (sp := []) 200 rfl ?_
  refine am_B.ast rfl hc (vp_n (show 0 < 1 by decide) rfl) rfl ?_
  rw [nI_clamp (show 0 < 2 ^ 31 by decide)]
  refine am_B.run (hp := false) (sp := []) 200 rfl ?_
  exact am_B.toW (am_B.iret rfl rfl rfl ⟨rfl, (oL.xk xk1).set (Or.inl rfl) _, _, gs_s hc, rfl⟩)
set_option maxRecDepth 100000 in
set_option maxHeartbeats 4000000 in
theorem ls_count2 (h : am_H) (X : xF h) (g0 : Nat → Int64) (h69 : h[69]? = some (la g0)) : am_CtW am_G0 m_LW_count [(0, 9, 12, 25)] 9 1 6 [.ref 1, .int (nI 2), .ref 69] h (sQ h (nI 0).toInt64) := by
  have h1 := X.2.1
  refine am_CtW.of (E := E_LW_count) e_LW_count (by decide) (Nat.le_of_ble_eq_true rfl) ?_
  refine am_B.run (hp := false) (sp := []) 200 rfl ?_
  refine am_B.callV (rc := 1) (rs := 6) (ci := 0) (n := 1) (as := [.int (nI 2)]) rfl rfl rfl (ct_TA_count 1 h 2 (nI 0) (nI 0) (nI 0) (nI 0) (by decide) h1 X.2.2.1) rfl rfl (by exact Nat.le_of_ble_eq_true rfl) rfl h1 rfl rfl (fun v h' z => ?_)
  obtain ⟨rfl, rfl⟩ := z
  have xk1 := xk.rf h'
  have hc : _ = some (la g0) := (xk1.2 69 (Or.inr (by decide))).trans h69
  refine am_B.run (hp := false) (sp := []) 200 rfl ?_
  refine am_B.ast rfl hc (vp_n (show 0 < 1 by decide) rfl) rfl ?_
  rw [nI_clamp (show 0 < 2 ^ 31 by decide)]
  refine am_B.run (hp := false) (sp := []) 200 rfl ?_
  exact am_B.toW (am_B.iret rfl rfl rfl ⟨rfl, (oL.xk xk1).set (Or.inl rfl) _, _, gs_s hc, rfl⟩)
set_option maxRecDepth 100000 in
set_option maxHeartbeats 4000000 in
theorem ls_countB (h : am_H) (X : xF h) (a : Int32) (ha : xbad a 3) : am_CtW am_G0 m_LW_count [(0, 9, 12, 25)] 9 1 6 [.ref 1, .int a, .ref 69] h (tQ h 1) := by
  have h1 := X.2.1
  refine am_CtW.of (E := E_LW_count) e_LW_count (by decide) (Nat.le_of_ble_eq_true rfl) ?_
  refine am_B.run (hp := false) (sp := []) 200 rfl ?_
  refine am_B.callVC (rc := 0) (rs := 0) (ci := 0) (n := 1) (as := [.int a]) rfl rfl rfl (xx_count h X a ha) rfl rfl (by exact Nat.le_of_ble_eq_true rfl) rfl h1 rfl rfl (fun _ _ z => z.elim) (fun En h' z => ?_)
  obtain ⟨rfl, d, rfl⟩ := z
  refine ⟨[], [], (0, 9, 12, 25), "java/lang/IndexOutOfBoundsException", _, 3, rfl, (fun z hz => by cases hz), ⟨Nat.le_of_ble_eq_true rfl, Nat.le_of_ble_eq_true rfl⟩, by decide, lk_O, List.mem_of_getElem? (i := 2) rfl, rfl, Or.inl ⟨⟨3, by decide⟩, rfl, rfl⟩, rfl, ?_⟩
  refine am_B.run (hp := false) (sp := []) 200 rfl ?_
  exact am_B.toW (am_B.iret rfl rfl rfl ⟨rfl, (oL.xk (xk.rf h)).rep _⟩)
set_option maxRecDepth 100000 in
set_option maxHeartbeats 4000000 in
theorem ls_label (h : am_H) (X : xF h) (a : Int32) : am_CtW am_G0 m_LW_label [(0, 9, 12, 25)] 9 1 6 [.ref 1, .int a, .ref 69] h (tQ h 1) := by
  have h1 := X.2.1
  refine am_CtW.of (E := E_LW_label) e_LW_label (by decide) (Nat.le_of_ble_eq_true rfl) ?_
  refine am_B.run (hp := false) (sp := []) 200 rfl ?_
  refine am_B.callVC (rc := 0) (rs := 0) (ci := 0) (n := 1) (as := [.int a]) rfl rfl rfl (xx_label h X a) rfl rfl (by exact Nat.le_of_ble_eq_true rfl) rfl h1 rfl rfl (fun _ _ z => z.elim) (fun En h' z => ?_)
  obtain ⟨rfl, d, rfl⟩ := z
  refine ⟨[], [], (0, 9, 12, 25), "java/lang/IndexOutOfBoundsException", _, 3, rfl, (fun z hz => by cases hz), ⟨Nat.le_of_ble_eq_true rfl, Nat.le_of_ble_eq_true rfl⟩, by decide, lk_O, List.mem_of_getElem? (i := 2) rfl, rfl, Or.inl ⟨⟨3, by decide⟩, rfl, rfl⟩, rfl, ?_⟩
  refine am_B.run (hp := false) (sp := []) 200 rfl ?_
  exact am_B.toW (am_B.iret rfl rfl rfl ⟨rfl, (oL.xk (xk.rf h)).rep _⟩)
set_option maxRecDepth 100000 in
set_option maxHeartbeats 4000000 in
theorem ls_tokensA (h : am_H) (X : xF h) (a b : Int32) (ha : xbad a 1) : am_CtW am_G0 m_LW_tokens [(0, 10, 13, 13), (0, 10, 17, 25)] 9 1 6 [.ref 1, .int a, .int b, .ref 69] h (tQ h 2) := by
  have h1 := X.2.1
  refine am_CtW.of (E := E_LW_tokens) e_LW_tokens (by decide) (Nat.le_of_ble_eq_true rfl) ?_
  refine am_B.run (hp := false) (sp := []) 200 rfl ?_
  refine am_B.callVC (rc := 0) (rs := 0) (ci := 0) (n := 2) (as := [.int a, .int b]) rfl rfl rfl (xx_tokensA h X a b ha) rfl rfl (by exact Nat.le_of_ble_eq_true rfl) rfl h1 rfl rfl (fun _ _ z => z.elim) (fun En h' z => ?_)
  obtain ⟨rfl, d, rfl⟩ := z
  refine ⟨[(0, 10, 13, 13)], [], (0, 10, 17, 25), "java/lang/IndexOutOfBoundsException", _, 4, rfl, (fun z hz => by
    obtain rfl := List.mem_singleton.mp hz
    exact ⟨by decide, _, lk_S, List.mem_of_getElem? (i := 0) rfl⟩), ⟨Nat.le_of_ble_eq_true rfl, Nat.le_of_ble_eq_true rfl⟩, by decide, lk_O, List.mem_of_getElem? (i := 2) rfl, rfl, Or.inr rfl, rfl, ?_⟩
  refine am_B.run (hp := false) (sp := []) 200 rfl ?_
  exact am_B.toW (am_B.iret rfl rfl rfl ⟨rfl, (oL.xk (xk_hE h)).rep _⟩)
set_option maxRecDepth 100000 in
set_option maxHeartbeats 4000000 in
theorem ls_tokensB (h : am_H) (X : xF h) (b : Int32) : am_CtW am_G0 m_LW_tokens [(0, 10, 13, 13), (0, 10, 17, 25)] 9 1 6 [.ref 1, .int (nI 0), .int b, .ref 69] h (tQ h 2) := by
  have h1 := X.2.1
  refine am_CtW.of (E := E_LW_tokens) e_LW_tokens (by decide) (Nat.le_of_ble_eq_true rfl) ?_
  refine am_B.run (hp := false) (sp := []) 200 rfl ?_
  refine am_B.callVC (rc := 0) (rs := 0) (ci := 0) (n := 2) (as := [.int (nI 0), .int b]) rfl rfl rfl (xx_tokensB h X b) rfl rfl (by exact Nat.le_of_ble_eq_true rfl) rfl h1 rfl rfl (fun _ _ z => z.elim) (fun En h' z => ?_)
  obtain ⟨rfl, d, rfl⟩ := z
  refine ⟨[(0, 10, 13, 13)], [], (0, 10, 17, 25), "java/lang/IndexOutOfBoundsException", _, 4, rfl, (fun z hz => by
    obtain rfl := List.mem_singleton.mp hz
    exact ⟨by decide, _, lk_S, List.mem_of_getElem? (i := 0) rfl⟩), ⟨Nat.le_of_ble_eq_true rfl, Nat.le_of_ble_eq_true rfl⟩, by decide, lk_O, List.mem_of_getElem? (i := 2) rfl, rfl, Or.inr rfl, rfl, ?_⟩
  refine am_B.run (hp := false) (sp := []) 200 rfl ?_
  exact am_B.toW (am_B.iret rfl rfl rfl ⟨rfl, (oL.xk (xk_hE h)).rep _⟩)
set_option maxRecDepth 100000 in
set_option maxHeartbeats 4000000 in
theorem ls_nextA (h : am_H) (X : xF h) (a b : Int32) (ha : xbad a 1) : am_CtW am_G0 m_LW_next [(0, 10, 13, 13), (0, 10, 17, 25)] 9 1 6 [.ref 1, .int a, .int b, .ref 69] h (tQ h 2) := by
  have h1 := X.2.1
  refine am_CtW.of (E := E_LW_next) e_LW_next (by decide) (Nat.le_of_ble_eq_true rfl) ?_
  refine am_B.run (hp := false) (sp := []) 200 rfl ?_
  refine am_B.callVC (rc := 0) (rs := 0) (ci := 0) (n := 2) (as := [.int a, .int b]) rfl rfl rfl (xx_nextA h X a b ha) rfl rfl (by exact Nat.le_of_ble_eq_true rfl) rfl h1 rfl rfl (fun _ _ z => z.elim) (fun En h' z => ?_)
  obtain ⟨rfl, d, rfl⟩ := z
  refine ⟨[(0, 10, 13, 13)], [], (0, 10, 17, 25), "java/lang/IndexOutOfBoundsException", _, 4, rfl, (fun z hz => by
    obtain rfl := List.mem_singleton.mp hz
    exact ⟨by decide, _, lk_S, List.mem_of_getElem? (i := 0) rfl⟩), ⟨Nat.le_of_ble_eq_true rfl, Nat.le_of_ble_eq_true rfl⟩, by decide, lk_O, List.mem_of_getElem? (i := 2) rfl, rfl, Or.inr rfl, rfl, ?_⟩
  refine am_B.run (hp := false) (sp := []) 200 rfl ?_
  exact am_B.toW (am_B.iret rfl rfl rfl ⟨rfl, (oL.xk (xk_hE h)).rep _⟩)
set_option maxRecDepth 100000 in
set_option maxHeartbeats 4000000 in
theorem ls_nextB (h : am_H) (X : xF h) (b : Int32) : am_CtW am_G0 m_LW_next [(0, 10, 13, 13), (0, 10, 17, 25)] 9 1 6 [.ref 1, .int (nI 0), .int b, .ref 69] h (tQ h 2) := by
  have h1 := X.2.1
  refine am_CtW.of (E := E_LW_next) e_LW_next (by decide) (Nat.le_of_ble_eq_true rfl) ?_
  refine am_B.run (hp := false) (sp := []) 200 rfl ?_
  refine am_B.callVC (rc := 0) (rs := 0) (ci := 0) (n := 2) (as := [.int (nI 0), .int b]) rfl rfl rfl (xx_nextB h X b) rfl rfl (by exact Nat.le_of_ble_eq_true rfl) rfl h1 rfl rfl (fun _ _ z => z.elim) (fun En h' z => ?_)
  obtain ⟨rfl, d, rfl⟩ := z
  refine ⟨[(0, 10, 13, 13)], [], (0, 10, 17, 25), "java/lang/IndexOutOfBoundsException", _, 4, rfl, (fun z hz => by
    obtain rfl := List.mem_singleton.mp hz
    exact ⟨by decide, _, lk_S, List.mem_of_getElem? (i := 0) rfl⟩), ⟨Nat.le_of_ble_eq_true rfl, Nat.le_of_ble_eq_true rfl⟩, by decide, lk_O, List.mem_of_getElem? (i := 2) rfl, rfl, Or.inr rfl, rfl, ?_⟩
  refine am_B.run (hp := false) (sp := []) 200 rfl ?_
  exact am_B.toW (am_B.iret rfl rfl rfl ⟨rfl, (oL.xk (xk_hE h)).rep _⟩)
set_option maxRecDepth 100000 in
set_option maxHeartbeats 4000000 in
theorem ls_enabledB (h : am_H) (X : xF h) (a : Int32) (ha : xbad a 1) : am_CtW am_G0 m_LW_enabled [(0, 9, 12, 13), (0, 9, 15, 25)] 9 1 6 [.ref 1, .int a, .ref 69] h (tQ h 2) := by
  have h1 := X.2.1
  refine am_CtW.of (E := E_LW_enabled) e_LW_enabled (by decide) (Nat.le_of_ble_eq_true rfl) ?_
  refine am_B.run (hp := false) (sp := []) 200 rfl ?_
  refine am_B.callVC (rc := 0) (rs := 0) (ci := 0) (n := 1) (as := [.int a]) rfl rfl rfl (xx_enabled h X a ha) rfl rfl (by exact Nat.le_of_ble_eq_true rfl) rfl h1 rfl rfl (fun _ _ z => z.elim) (fun En h' z => ?_)
  obtain ⟨rfl, d, rfl⟩ := z
  refine ⟨[(0, 9, 12, 13)], [], (0, 9, 15, 25), "java/lang/IndexOutOfBoundsException", _, 3, rfl, (fun z hz => by
    obtain rfl := List.mem_singleton.mp hz
    exact ⟨by decide, _, lk_S, List.mem_of_getElem? (i := 0) rfl⟩), ⟨Nat.le_of_ble_eq_true rfl, Nat.le_of_ble_eq_true rfl⟩, by decide, lk_O, List.mem_of_getElem? (i := 2) rfl, rfl, Or.inl ⟨⟨3, by decide⟩, rfl, rfl⟩, rfl, ?_⟩
  refine am_B.run (hp := false) (sp := []) 200 rfl ?_
  exact am_B.toW (am_B.iret rfl rfl rfl ⟨rfl, (oL.xk (xk_hE h)).rep _⟩)
set_option maxRecDepth 100000 in
set_option maxHeartbeats 4000000 in
theorem ls_awayB (h : am_H) (X : xF h) (a : Int32) (ha : xbad a 1) : am_CtW am_G0 m_LW_away [(0, 9, 12, 13), (0, 9, 15, 25)] 9 1 6 [.ref 1, .int a, .ref 69] h (tQ h 2) := by
  have h1 := X.2.1
  refine am_CtW.of (E := E_LW_away) e_LW_away (by decide) (Nat.le_of_ble_eq_true rfl) ?_
  refine am_B.run (hp := false) (sp := []) 200 rfl ?_
  refine am_B.callVC (rc := 0) (rs := 0) (ci := 0) (n := 1) (as := [.int a]) rfl rfl rfl (xx_away h X a ha) rfl rfl (by exact Nat.le_of_ble_eq_true rfl) rfl h1 rfl rfl (fun _ _ z => z.elim) (fun En h' z => ?_)
  obtain ⟨rfl, d, rfl⟩ := z
  refine ⟨[(0, 9, 12, 13)], [], (0, 9, 15, 25), "java/lang/IndexOutOfBoundsException", _, 3, rfl, (fun z hz => by
    obtain rfl := List.mem_singleton.mp hz
    exact ⟨by decide, _, lk_S, List.mem_of_getElem? (i := 0) rfl⟩), ⟨Nat.le_of_ble_eq_true rfl, Nat.le_of_ble_eq_true rfl⟩, by decide, lk_O, List.mem_of_getElem? (i := 2) rfl, rfl, Or.inl ⟨⟨3, by decide⟩, rfl, rfl⟩, rfl, ?_⟩
  refine am_B.run (hp := false) (sp := []) 200 rfl ?_
  exact am_B.toW (am_B.iret rfl rfl rfl ⟨rfl, (oL.xk (xk_hE h)).rep _⟩)
set_option maxRecDepth 100000 in
set_option maxHeartbeats 4000000 in
theorem ls_enabled (h : am_H) (X : xF h) (g0 : Nat → Int64) (h69 : h[69]? = some (la g0)) : am_CtW am_G0 m_LW_enabled [(0, 9, 12, 13), (0, 9, 15, 25)] 9 1 6 [.ref 1, .int (nI 0), .ref 69] h (sQ h (nI 0).toInt64) := by
  have h1 := X.2.1
  refine am_CtW.of (E := E_LW_enabled) e_LW_enabled (by decide) (Nat.le_of_ble_eq_true rfl) ?_
  refine am_B.run (hp := false) (sp := []) 200 rfl ?_
  refine am_B.callV (rc := 1) (rs := 6) (ci := 0) (n := 1) (as := [.int (nI 0)]) rfl rfl rfl (xx_enabled0 h X) rfl rfl (by exact Nat.le_of_ble_eq_true rfl) rfl h1 rfl rfl (fun v h' z => ?_)
  obtain ⟨rfl, rfl⟩ := z
  have xk1 := xk_hE h
  have hc : _ = some (la g0) := (xk1.2 69 (Or.inr (by decide))).trans h69
  refine am_B.run (hp := false) (sp := []) 200 rfl ?_
  refine am_B.ast rfl hc (vp_n (show 0 < 1 by decide) rfl) rfl ?_
  rw [nI_clamp (show 0 < 2 ^ 31 by decide)]
  refine am_B.run (hp := false) (sp := []) 200 rfl ?_
  exact am_B.toW (am_B.iret rfl rfl rfl ⟨rfl, (oL.xk xk1).set (Or.inl rfl) _, _, gs_s hc, rfl⟩)
set_option maxRecDepth 100000 in
set_option maxHeartbeats 4000000 in
theorem ls_away (h : am_H) (X : xF h) (g0 : Nat → Int64) (h69 : h[69]? = some (la g0)) : am_CtW am_G0 m_LW_away [(0, 9, 12, 13), (0, 9, 15, 25)] 9 1 6 [.ref 1, .int (nI 0), .ref 69] h (sQ h (nI 0).toInt64) := by
  have h1 := X.2.1
  refine am_CtW.of (E := E_LW_away) e_LW_away (by decide) (Nat.le_of_ble_eq_true rfl) ?_
  refine am_B.run (hp := false) (sp := []) 200 rfl ?_
  refine am_B.callV (rc := 1) (rs := 6) (ci := 0) (n := 1) (as := [.int (nI 0)]) rfl rfl rfl (xx_away0 h X) rfl rfl (by exact Nat.le_of_ble_eq_true rfl) rfl h1 rfl rfl (fun v h' z => ?_)
  obtain ⟨rfl, x, y, rfl⟩ := z
  have xk1 := ((xk_hE h).set (a := 15) (by decide) x).set (a := 17) (by decide) y
  have hc : _ = some (la g0) := (xk1.2 69 (Or.inr (by decide))).trans h69
  refine am_B.run (hp := false) (sp := []) 200 rfl ?_
  refine am_B.ast rfl hc (vp_n (show 0 < 1 by decide) rfl) rfl ?_
  rw [nI_clamp (show 0 < 2 ^ 31 by decide)]
  refine am_B.run (hp := false) (sp := []) 200 rfl ?_
  exact am_B.toW (am_B.iret rfl rfl rfl ⟨rfl, (oL.xk xk1).set (Or.inl rfl) _, _, gs_s hc, rfl⟩)
set_option maxRecDepth 100000 in
set_option maxHeartbeats 4000000 in
theorem ls_last (h : am_H) (X : xF h) (g0 : Nat → Int64) (h69 : h[69]? = some (la g0)) : am_CtW am_G0 m_LW_last [(0, 8, 11, 13)] 9 1 6 [.ref 1, .ref 69] h (sQ h (nI 0).toInt64) := by
  have h1 := X.2.1
  refine am_CtW.of (E := E_LW_last) e_LW_last (by decide) (Nat.le_of_ble_eq_true rfl) ?_
  refine am_B.run (hp := false) (sp := []) 200 rfl ?_
  refine am_B.callV (rc := 1) (rs := 6) (ci := 0) (n := 0) (as := []) rfl rfl rfl (xx_last h X) rfl rfl (by exact Nat.le_of_ble_eq_true rfl) rfl h1 rfl rfl (fun v h' z => ?_)
  obtain ⟨rfl, rfl⟩ := z
  have xk1 := xk_hE h
  have hc : _ = some (la g0) := (xk1.2 69 (Or.inr (by decide))).trans h69
  refine am_B.run (hp := false) (sp := []) 200 rfl ?_
  refine am_B.ast rfl hc (vp_n (show 0 < 1 by decide) rfl) rfl ?_
  rw [nI_clamp (show 0 < 2 ^ 31 by decide)]
  refine am_B.run (hp := false) (sp := []) 200 rfl ?_
  exact am_B.toW (am_B.iret rfl rfl rfl ⟨rfl, (oL.xk xk1).set (Or.inl rfl) _, _, gs_s hc, rfl⟩)
set_option maxRecDepth 100000 in
set_option maxHeartbeats 4000000 in
theorem ls_dead (h : am_H) (X : xF h) (g0 : Nat → Int64) (h69 : h[69]? = some (la g0)) : am_CtW am_G0 m_LW_dead [(0, 8, 11, 13)] 9 1 6 [.ref 1, .ref 69] h (sQ h (nI 0).toInt64) := by
  have h1 := X.2.1
  refine am_CtW.of (E := E_LW_dead) e_LW_dead (by decide) (Nat.le_of_ble_eq_true rfl) ?_
  refine am_B.run (hp := false) (sp := []) 200 rfl ?_
  refine am_B.callV (rc := 1) (rs := 6) (ci := 0) (n := 0) (as := []) rfl rfl rfl (xx_dead h X) rfl rfl (by exact Nat.le_of_ble_eq_true rfl) rfl h1 rfl rfl (fun v h' z => ?_)
  obtain ⟨rfl, rfl⟩ := z
  have xk1 := xk_hE h
  have hc : _ = some (la g0) := (xk1.2 69 (Or.inr (by decide))).trans h69
  refine am_B.run (hp := false) (sp := []) 200 rfl ?_
  refine am_B.ast rfl hc (vp_n (show 0 < 1 by decide) rfl) rfl ?_
  rw [nI_clamp (show 0 < 2 ^ 31 by decide)]
  refine am_B.run (hp := false) (sp := []) 200 rfl ?_
  exact am_B.toW (am_B.iret rfl rfl rfl ⟨rfl, (oL.xk xk1).set (Or.inl rfl) _, _, gs_s hc, rfl⟩)
set_option maxRecDepth 100000 in
set_option maxHeartbeats 4000000 in
theorem ls_live (h : am_H) (X : xF h) (g0 : Nat → Int64) (h69 : h[69]? = some (la g0)) : am_CtW am_G0 m_LW_live [(0, 8, 11, 13)] 9 1 6 [.ref 1, .ref 69] h (sQ h (nI 0).toInt64) := by
  have h1 := X.2.1
  refine am_CtW.of (E := E_LW_live) e_LW_live (by decide) (Nat.le_of_ble_eq_true rfl) ?_
  refine am_B.run (hp := false) (sp := []) 200 rfl ?_
  refine am_B.callV (rc := 1) (rs := 6) (ci := 0) (n := 0) (as := []) rfl rfl rfl (xx_live h X) rfl rfl (by exact Nat.le_of_ble_eq_true rfl) rfl h1 rfl rfl (fun v h' z => ?_)
  obtain ⟨rfl, rfl⟩ := z
  have xk1 := xk_hE h
  have hc : _ = some (la g0) := (xk1.2 69 (Or.inr (by decide))).trans h69
  refine am_B.run (hp := false) (sp := []) 200 rfl ?_
  refine am_B.ast rfl hc (vp_n (show 0 < 1 by decide) rfl) rfl ?_
  rw [nI_clamp (show 0 < 2 ^ 31 by decide)]
  refine am_B.run (hp := false) (sp := []) 200 rfl ?_
  exact am_B.toW (am_B.iret rfl rfl rfl ⟨rfl, (oL.xk xk1).set (Or.inl rfl) _, _, gs_s hc, rfl⟩)
set_option maxRecDepth 100000 in
set_option maxHeartbeats 4000000 in
theorem ls_event (h : am_H) (X : xF h) (l : Nat) (hl : l < 6) (g0 : Nat → Int64) (h69 : h[69]? = some (la g0)) : am_CtW am_G0 m_LW_event [(0, 9, 12, 19), (0, 9, 15, 13)] 9 1 6 [.ref 1, .int (nI l), .ref 69] h (sQ h (nI 1).toInt64) := by
  have h1 := X.2.1
  refine am_CtW.of (E := E_LW_event) e_LW_event (by decide) (Nat.le_of_ble_eq_true rfl) ?_
  refine am_B.run (hp := false) (sp := []) 200 rfl ?_
  refine am_B.callV (rc := 1) (rs := 6) (ci := 0) (n := 1) (as := [.int (nI l)]) rfl rfl rfl (ct_TA_event h l 0 (nI 0) (fun _ => 0) hl (by decide) h1 X.2.2.2.2.2.2.2.2.2.2.2.2.2.2.2.2.1) rfl rfl (by exact Nat.le_of_ble_eq_true rfl) rfl h1 rfl rfl (fun v h' z => ?_)
  obtain ⟨rfl, rfl⟩ := z
  have xk1 := ((xk.rf h).set (a := 26) (by decide) (ia 8 (upd (fun _ => 0) 0 (nI l)))).set (a := 1) (by decide) (c_TA (nI (0 + 1)) (nI 0))
  have hc : _ = some (la g0) := (xk1.2 69 (Or.inr (by decide))).trans h69
  refine am_B.run (hp := false) (sp := []) 200 rfl ?_
  refine am_B.ast rfl hc (vp_n (show 0 < 1 by decide) rfl) rfl ?_
  rw [nI_clamp (show 0 < 2 ^ 31 by decide)]
  refine am_B.run (hp := false) (sp := []) 200 rfl ?_
  exact am_B.toW (am_B.iret rfl rfl rfl ⟨rfl, (oL.xk xk1).set (Or.inl rfl) _, _, gs_s hc, rfl⟩)
set_option maxRecDepth 100000 in
set_option maxHeartbeats 4000000 in
theorem ls_eventB (h : am_H) (X : xF h) (a : Int32) (ha : xbad a 6) : am_CtW am_G0 m_LW_event [(0, 9, 12, 19), (0, 9, 15, 13)] 9 1 6 [.ref 1, .int a, .ref 69] h (tQ h 1) := by
  have h1 := X.2.1
  refine am_CtW.of (E := E_LW_event) e_LW_event (by decide) (Nat.le_of_ble_eq_true rfl) ?_
  refine am_B.run (hp := false) (sp := []) 200 rfl ?_
  refine am_B.callVC (rc := 0) (rs := 0) (ci := 0) (n := 1) (as := [.int a]) rfl rfl rfl (xx_event h X a ha) rfl rfl (by exact Nat.le_of_ble_eq_true rfl) rfl h1 rfl rfl (fun _ _ z => z.elim) (fun En h' z => ?_)
  obtain ⟨rfl, d, rfl⟩ := z
  refine ⟨[], [(0, 9, 15, 13)], (0, 9, 12, 19), "java/lang/IllegalArgumentException", _, 3, rfl, (fun z hz => by cases hz), ⟨Nat.le_of_ble_eq_true rfl, Nat.le_of_ble_eq_true rfl⟩, by decide, lk_A, List.mem_of_getElem? (i := 1) rfl, rfl, Or.inl ⟨⟨3, by decide⟩, rfl, rfl⟩, rfl, ?_⟩
  refine am_B.run (hp := false) (sp := []) 200 rfl ?_
  exact am_B.toW (am_B.iret rfl rfl rfl ⟨rfl, (oL.xk (xk.rf h)).rep _⟩)
set_option maxRecDepth 100000 in
set_option maxHeartbeats 4000000 in
theorem ls_store (h : am_H) (X : xF h) (t : Nat) (ht : t < 100) (g0 : Nat → Int64) (h69 : h[69]? = some (la g0)) : am_CtW am_G0 m_LW_store [(0, 9, 12, 19), (0, 9, 15, 13)] 9 1 6 [.ref 1, .int (nI t), .ref 69] h (sQ h (nI 0).toInt64) := by
  have h1 := X.2.1
  refine am_CtW.of (E := E_LW_store) e_LW_store (by decide) (Nat.le_of_ble_eq_true rfl) ?_
  refine am_B.run (hp := false) (sp := []) 200 rfl ?_
  refine am_B.callV (rc := 1) (rs := 6) (ci := 0) (n := 1) (as := [.int (nI t)]) rfl rfl rfl (ct_TA_store h 0 0 t 0 0 (nI 0) 0 0 0 30 (fun _ => 0) (fun _ => 0) (by decide) (by decide) (by omega) h1 X.2.2.2.2.2.2.2.2.2.2.2.2.2.2.2.2.2.1 (X.2.2.2.2.2.2.2.2.2.2.2.2.2.2.2.2.2.2.2.1 0 (by decide)) X.2.2.2.2.2.2.2.2.2.2.2.2.2.2.2.2.2.2.2.2 X.2.2.2.2.2.2.2.2.2.2.2.2.2.2.2.2.1) rfl rfl (by exact Nat.le_of_ble_eq_true rfl) rfl h1 rfl rfl (fun v h' z => ?_)
  obtain ⟨rfl, rfl⟩ := z
  have xk1 := (((xk.rf h).set (a := 29 + 3 * 0) (by decide) (ia 8 (va_cpy (fun _ => 0) (fun _ => 0) 0 0 0))).set (a := 28 + 3 * 0) (by decide) (c_TR 0 (nI 0) (nI t) (nI 0) 0 0 0 30)).set (a := 1) (by decide) (c_TA (nI 0) (nI (0 + 1)))
  have hc : _ = some (la g0) := (xk1.2 69 (Or.inr (by decide))).trans h69
  refine am_B.run (hp := false) (sp := []) 200 rfl ?_
  refine am_B.ast rfl hc (vp_n (show 0 < 1 by decide) rfl) rfl ?_
  rw [nI_clamp (show 0 < 2 ^ 31 by decide)]
  refine am_B.run (hp := false) (sp := []) 200 rfl ?_
  exact am_B.toW (am_B.iret rfl rfl rfl ⟨rfl, (oL.xk xk1).set (Or.inl rfl) _, _, gs_s hc, rfl⟩)
set_option maxRecDepth 100000 in
set_option maxHeartbeats 4000000 in
theorem ls_storeB (h : am_H) (X : xF h) (a : Int32) (ha : xbad a 100) : am_CtW am_G0 m_LW_store [(0, 9, 12, 19), (0, 9, 15, 13)] 9 1 6 [.ref 1, .int a, .ref 69] h (tQ h 1) := by
  have h1 := X.2.1
  refine am_CtW.of (E := E_LW_store) e_LW_store (by decide) (Nat.le_of_ble_eq_true rfl) ?_
  refine am_B.run (hp := false) (sp := []) 200 rfl ?_
  refine am_B.callVC (rc := 0) (rs := 0) (ci := 0) (n := 1) (as := [.int a]) rfl rfl rfl (xx_store h X a ha) rfl rfl (by exact Nat.le_of_ble_eq_true rfl) rfl h1 rfl rfl (fun _ _ z => z.elim) (fun En h' z => ?_)
  obtain ⟨rfl, d, rfl⟩ := z
  refine ⟨[], [(0, 9, 15, 13)], (0, 9, 12, 19), "java/lang/IllegalArgumentException", _, 3, rfl, (fun z hz => by cases hz), ⟨Nat.le_of_ble_eq_true rfl, Nat.le_of_ble_eq_true rfl⟩, by decide, lk_A, List.mem_of_getElem? (i := 1) rfl, rfl, Or.inl ⟨⟨3, by decide⟩, rfl, rfl⟩, rfl, ?_⟩
  refine am_B.run (hp := false) (sp := []) 200 rfl ?_
  exact am_B.toW (am_B.iret rfl rfl rfl ⟨rfl, (oL.xk (xk.rf h)).rep _⟩)
set_option maxRecDepth 100000 in
set_option maxHeartbeats 4000000 in
theorem ls_dropTrace (h : am_H) (X : xF h) : am_CtW am_G0 m_LW_dropTrace [(0, 8, 11, 13)] 9 1 6 [.ref 1, .ref 69] h (tQ h 1) := by
  have h1 := X.2.1
  refine am_CtW.of (E := E_LW_dropTrace) e_LW_dropTrace (by decide) (Nat.le_of_ble_eq_true rfl) ?_
  refine am_B.run (hp := false) (sp := []) 200 rfl ?_
  refine am_B.callVC (rc := 0) (rs := 0) (ci := 0) (n := 0) (as := []) rfl rfl rfl (xx_dropTrace h X) rfl rfl (by exact Nat.le_of_ble_eq_true rfl) rfl h1 rfl rfl (fun _ _ z => z.elim) (fun En h' z => ?_)
  obtain ⟨rfl, d, rfl⟩ := z
  refine ⟨[], [], (0, 8, 11, 13), "java/lang/IllegalStateException", _, 2, rfl, (fun z hz => by cases hz), ⟨Nat.le_of_ble_eq_true rfl, Nat.le_of_ble_eq_true rfl⟩, by decide, lk_S, List.mem_of_getElem? (i := 0) rfl, rfl, Or.inl ⟨⟨2, by decide⟩, rfl, rfl⟩, rfl, ?_⟩
  refine am_B.run (hp := false) (sp := []) 200 rfl ?_
  exact am_B.toW (am_B.iret rfl rfl rfl ⟨rfl, (oL.xk (xk.rf h)).rep _⟩)
set_option maxRecDepth 100000 in
set_option maxHeartbeats 4000000 in
theorem ls_length (h : am_H) (X : xF h) (a : Int32) : am_CtW am_G0 m_LW_length [(0, 9, 12, 25)] 9 1 6 [.ref 1, .int a, .ref 69] h (tQ h 1) := by
  have h1 := X.2.1
  refine am_CtW.of (E := E_LW_length) e_LW_length (by decide) (Nat.le_of_ble_eq_true rfl) ?_
  refine am_B.run (hp := false) (sp := []) 200 rfl ?_
  refine am_B.callVC (rc := 0) (rs := 0) (ci := 0) (n := 1) (as := [.int a]) rfl rfl rfl (xx_length h X a) rfl rfl (by exact Nat.le_of_ble_eq_true rfl) rfl h1 rfl rfl (fun _ _ z => z.elim) (fun En h' z => ?_)
  obtain ⟨rfl, d, rfl⟩ := z
  refine ⟨[], [], (0, 9, 12, 25), "java/lang/IndexOutOfBoundsException", _, 3, rfl, (fun z hz => by cases hz), ⟨Nat.le_of_ble_eq_true rfl, Nat.le_of_ble_eq_true rfl⟩, by decide, lk_O, List.mem_of_getElem? (i := 2) rfl, rfl, Or.inl ⟨⟨3, by decide⟩, rfl, rfl⟩, rfl, ?_⟩
  refine am_B.run (hp := false) (sp := []) 200 rfl ?_
  exact am_B.toW (am_B.iret rfl rfl rfl ⟨rfl, (oL.xk (xk.rf h)).rep _⟩)
set_option maxRecDepth 100000 in
set_option maxHeartbeats 4000000 in
theorem ls_setLabelCostA (h : am_H) (X : xF h) (a b : Int32) (ha : xbad a 6) : am_CtW am_G0 m_LW_setLabelCost [(0, 10, 13, 25), (0, 10, 17, 19)] 9 1 6 [.ref 1, .int a, .int b, .ref 69] h (tQ h 1) := by
  have h1 := X.2.1
  refine am_CtW.of (E := E_LW_setLabelCost) e_LW_setLabelCost (by decide) (Nat.le_of_ble_eq_true rfl) ?_
  refine am_B.run (hp := false) (sp := []) 200 rfl ?_
  refine am_B.callVC (rc := 0) (rs := 0) (ci := 0) (n := 2) (as := [.int a, .int b]) rfl rfl rfl (xx_setLabelCostA h X a b ha) rfl rfl (by exact Nat.le_of_ble_eq_true rfl) rfl h1 rfl rfl (fun _ _ z => z.elim) (fun En h' z => ?_)
  obtain ⟨rfl, d, rfl⟩ := z
  refine ⟨[], [(0, 10, 17, 19)], (0, 10, 13, 25), "java/lang/IndexOutOfBoundsException", _, 4, rfl, (fun z hz => by cases hz), ⟨Nat.le_of_ble_eq_true rfl, Nat.le_of_ble_eq_true rfl⟩, by decide, lk_O, List.mem_of_getElem? (i := 2) rfl, rfl, Or.inr rfl, rfl, ?_⟩
  refine am_B.run (hp := false) (sp := []) 200 rfl ?_
  exact am_B.toW (am_B.iret rfl rfl rfl ⟨rfl, (oL.xk (xk.rf h)).rep _⟩)
set_option maxRecDepth 100000 in
set_option maxHeartbeats 4000000 in
theorem ls_setLabelCostB (h : am_H) (X : xF h) (l : Nat) (hl : l < 6) (b : Int32) (hb : xbad b 10) : am_CtW am_G0 m_LW_setLabelCost [(0, 10, 13, 25), (0, 10, 17, 19)] 9 1 6 [.ref 1, .int (nI l), .int b, .ref 69] h (tQ h 2) := by
  have h1 := X.2.1
  refine am_CtW.of (E := E_LW_setLabelCost) e_LW_setLabelCost (by decide) (Nat.le_of_ble_eq_true rfl) ?_
  refine am_B.run (hp := false) (sp := []) 200 rfl ?_
  refine am_B.callVC (rc := 0) (rs := 0) (ci := 0) (n := 2) (as := [.int (nI l), .int b]) rfl rfl rfl (xx_setLabelCostB h X l hl b hb) rfl rfl (by exact Nat.le_of_ble_eq_true rfl) rfl h1 rfl rfl (fun _ _ z => z.elim) (fun En h' z => ?_)
  obtain ⟨rfl, d, rfl⟩ := z
  refine ⟨[(0, 10, 13, 25)], [], (0, 10, 17, 19), "java/lang/IllegalArgumentException", _, 4, rfl, (fun z hz => by
    obtain rfl := List.mem_singleton.mp hz
    exact ⟨by decide, _, lk_O, List.mem_of_getElem? (i := 1) rfl⟩), ⟨Nat.le_of_ble_eq_true rfl, Nat.le_of_ble_eq_true rfl⟩, by decide, lk_A, List.mem_of_getElem? (i := 1) rfl, rfl, Or.inr rfl, rfl, ?_⟩
  refine am_B.run (hp := false) (sp := []) 200 rfl ?_
  exact am_B.toW (am_B.iret rfl rfl rfl ⟨rfl, (oL.xk (xk.rf h)).rep _⟩)
set_option maxRecDepth 100000 in
set_option maxHeartbeats 4000000 in
theorem ls_setLabelCost (h : am_H) (X : xF h) (l c : Nat) (hl : l < 6) (hc : c ≤ 9) (g0 : Nat → Int64) (h69 : h[69]? = some (la g0)) : am_CtW am_G0 m_LW_setLabelCost [(0, 10, 13, 25), (0, 10, 17, 19)] 9 1 6 [.ref 1, .int (nI l), .int (nI c), .ref 69] h (sQ h (nI 1).toInt64) := by
  have h1 := X.2.1
  refine am_CtW.of (E := E_LW_setLabelCost) e_LW_setLabelCost (by decide) (Nat.le_of_ble_eq_true rfl) ?_
  refine am_B.run (hp := false) (sp := []) 200 rfl ?_
  refine am_B.callV (rc := 1) (rs := 6) (ci := 0) (n := 2) (as := [.int (nI l), .int (nI c)]) rfl rfl rfl (xx_setLabelCost h X X.calm l c hl hc) rfl rfl (by exact Nat.le_of_ble_eq_true rfl) rfl h1 rfl rfl (fun v h' z => ?_)
  obtain ⟨rfl, x, rfl⟩ := z
  have xk1 := (xk.rf h).set (a := 13) (by decide) x
  have hc : _ = some (la g0) := (xk1.2 69 (Or.inr (by decide))).trans h69
  refine am_B.run (hp := false) (sp := []) 200 rfl ?_
  refine am_B.ast rfl hc (vp_n (show 0 < 1 by decide) rfl) rfl ?_
  rw [nI_clamp (show 0 < 2 ^ 31 by decide)]
  refine am_B.run (hp := false) (sp := []) 200 rfl ?_
  exact am_B.toW (am_B.iret rfl rfl rfl ⟨rfl, (oL.xk xk1).set (Or.inl rfl) _, _, gs_s hc, rfl⟩)
set_option maxRecDepth 100000 in
set_option maxHeartbeats 4000000 in
theorem ls_setCost (h : am_H) (X : xF h) (a b : Int32) : am_CtW am_G0 m_LW_setCost [(0, 10, 13, 25), (0, 10, 17, 19)] 9 1 6 [.ref 1, .int a, .int b, .ref 69] h (tQ h 1) := by
  have h1 := X.2.1
  refine am_CtW.of (E := E_LW_setCost) e_LW_setCost (by decide) (Nat.le_of_ble_eq_true rfl) ?_
  refine am_B.run (hp := false) (sp := []) 200 rfl ?_
  refine am_B.callVC (rc := 0) (rs := 0) (ci := 0) (n := 2) (as := [.int a, .int b]) rfl rfl rfl (xx_setCost h X a b) rfl rfl (by exact Nat.le_of_ble_eq_true rfl) rfl h1 rfl rfl (fun _ _ z => z.elim) (fun En h' z => ?_)
  obtain ⟨rfl, d, rfl⟩ := z
  refine ⟨[], [(0, 10, 17, 19)], (0, 10, 13, 25), "java/lang/IndexOutOfBoundsException", _, 4, rfl, (fun z hz => by cases hz), ⟨Nat.le_of_ble_eq_true rfl, Nat.le_of_ble_eq_true rfl⟩, by decide, lk_O, List.mem_of_getElem? (i := 2) rfl, rfl, Or.inr rfl, rfl, ?_⟩
  refine am_B.run (hp := false) (sp := []) 200 rfl ?_
  exact am_B.toW (am_B.iret rfl rfl rfl ⟨rfl, (oL.xk (xk.rf h)).rep _⟩)
set_option maxRecDepth 100000 in
set_option maxHeartbeats 4000000 in
theorem ls_cost (h : am_H) (X : xF h) (a : Int32) : am_CtW am_G0 m_LW_cost [(0, 9, 12, 25), (0, 9, 15, 13)] 9 1 6 [.ref 1, .int a, .ref 69] h (tQ h 1) := by
  have h1 := X.2.1
  refine am_CtW.of (E := E_LW_cost) e_LW_cost (by decide) (Nat.le_of_ble_eq_true rfl) ?_
  refine am_B.run (hp := false) (sp := []) 200 rfl ?_
  refine am_B.callVC (rc := 0) (rs := 0) (ci := 0) (n := 1) (as := [.int a]) rfl rfl rfl (xx_cost h X a) rfl rfl (by exact Nat.le_of_ble_eq_true rfl) rfl h1 rfl rfl (fun _ _ z => z.elim) (fun En h' z => ?_)
  obtain ⟨rfl, d, rfl⟩ := z
  refine ⟨[], [(0, 9, 15, 13)], (0, 9, 12, 25), "java/lang/IndexOutOfBoundsException", _, 3, rfl, (fun z hz => by cases hz), ⟨Nat.le_of_ble_eq_true rfl, Nat.le_of_ble_eq_true rfl⟩, by decide, lk_O, List.mem_of_getElem? (i := 2) rfl, rfl, Or.inl ⟨⟨3, by decide⟩, rfl, rfl⟩, rfl, ?_⟩
  refine am_B.run (hp := false) (sp := []) 200 rfl ?_
  exact am_B.toW (am_B.iret rfl rfl rfl ⟨rfl, (oL.xk (xk.rf h)).rep _⟩)
set_option maxRecDepth 100000 in
set_option maxHeartbeats 4000000 in
theorem ls_moves (h : am_H) (X : xF h) (a : Int32) : am_CtW am_G0 m_LW_moves [(0, 9, 12, 25), (0, 9, 15, 13)] 9 1 6 [.ref 1, .int a, .ref 69] h (tQ h 1) := by
  have h1 := X.2.1
  refine am_CtW.of (E := E_LW_moves) e_LW_moves (by decide) (Nat.le_of_ble_eq_true rfl) ?_
  refine am_B.run (hp := false) (sp := []) 200 rfl ?_
  refine am_B.callVC (rc := 0) (rs := 0) (ci := 0) (n := 1) (as := [.int a]) rfl rfl rfl (xx_moves h X a) rfl rfl (by exact Nat.le_of_ble_eq_true rfl) rfl h1 rfl rfl (fun _ _ z => z.elim) (fun En h' z => ?_)
  obtain ⟨rfl, d, rfl⟩ := z
  refine ⟨[], [(0, 9, 15, 13)], (0, 9, 12, 25), "java/lang/IndexOutOfBoundsException", _, 3, rfl, (fun z hz => by cases hz), ⟨Nat.le_of_ble_eq_true rfl, Nat.le_of_ble_eq_true rfl⟩, by decide, lk_O, List.mem_of_getElem? (i := 2) rfl, rfl, Or.inl ⟨⟨3, by decide⟩, rfl, rfl⟩, rfl, ?_⟩
  refine am_B.run (hp := false) (sp := []) 200 rfl ?_
  exact am_B.toW (am_B.iret rfl rfl rfl ⟨rfl, (oL.xk (xk.rf h)).rep _⟩)
set_option maxRecDepth 100000 in
set_option maxHeartbeats 4000000 in
theorem ls_worst (h : am_H) (X : xF h) (a : Int32) : am_CtW am_G0 m_LW_worst [(0, 9, 12, 25), (0, 9, 15, 13)] 9 1 6 [.ref 1, .int a, .ref 69] h (tQ h 1) := by
  have h1 := X.2.1
  refine am_CtW.of (E := E_LW_worst) e_LW_worst (by decide) (Nat.le_of_ble_eq_true rfl) ?_
  refine am_B.run (hp := false) (sp := []) 200 rfl ?_
  refine am_B.callVC (rc := 0) (rs := 0) (ci := 0) (n := 1) (as := [.int a]) rfl rfl rfl (xx_worst h X a) rfl rfl (by exact Nat.le_of_ble_eq_true rfl) rfl h1 rfl rfl (fun _ _ z => z.elim) (fun En h' z => ?_)
  obtain ⟨rfl, d, rfl⟩ := z
  refine ⟨[], [(0, 9, 15, 13)], (0, 9, 12, 25), "java/lang/IndexOutOfBoundsException", _, 3, rfl, (fun z hz => by cases hz), ⟨Nat.le_of_ble_eq_true rfl, Nat.le_of_ble_eq_true rfl⟩, by decide, lk_O, List.mem_of_getElem? (i := 2) rfl, rfl, Or.inl ⟨⟨3, by decide⟩, rfl, rfl⟩, rfl, ?_⟩
  refine am_B.run (hp := false) (sp := []) 200 rfl ?_
  exact am_B.toW (am_B.iret rfl rfl rfl ⟨rfl, (oL.xk (xk.rf h)).rep _⟩)
set_option maxRecDepth 100000 in
set_option maxHeartbeats 4000000 in
theorem ls_move (h : am_H) (X : xF h) (a b c : Int32) : am_CtW am_G0 m_LW_move [(0, 12, 15, 25), (0, 12, 19, 13), (0, 12, 23, 19)] 9 1 6 [.ref 1, .int a, .int b, .int c, .ref 69] h (tQ h 1) := by
  have h1 := X.2.1
  refine am_CtW.of (E := E_LW_move) e_LW_move (by decide) (Nat.le_of_ble_eq_true rfl) ?_
  refine am_B.run (hp := false) (sp := []) 200 rfl ?_
  refine am_B.callVC (rc := 0) (rs := 0) (ci := 0) (n := 3) (as := [.int a, .int b, .int c]) rfl rfl rfl (xx_move h X a b c) rfl rfl (by exact Nat.le_of_ble_eq_true rfl) rfl h1 rfl rfl (fun _ _ z => z.elim) (fun En h' z => ?_)
  obtain ⟨rfl, d, rfl⟩ := z
  refine ⟨[], [(0, 12, 19, 13), (0, 12, 23, 19)], (0, 12, 15, 25), "java/lang/IndexOutOfBoundsException", _, 5, rfl, (fun z hz => by cases hz), ⟨Nat.le_of_ble_eq_true rfl, Nat.le_of_ble_eq_true rfl⟩, by decide, lk_O, List.mem_of_getElem? (i := 2) rfl, rfl, Or.inr rfl, rfl, ?_⟩
  refine am_B.run (hp := false) (sp := []) 200 rfl ?_
  exact am_B.toW (am_B.iret rfl rfl rfl ⟨rfl, (oL.xk (xk.rf h)).rep _⟩)
set_option maxRecDepth 100000 in
set_option maxHeartbeats 4000000 in
theorem ls_fitness (h : am_H) (X : xF h) (a : Int32) : am_CtW am_G0 m_LW_fitness [(0, 8, 11, 25), (0, 8, 14, 13)] 9 1 6 [.ref 1, .int a, .ref 70] h (tQ h 1) := by
  have h1 := X.2.1
  refine am_CtW.of (E := E_LW_fitness) e_LW_fitness (by decide) (Nat.le_of_ble_eq_true rfl) ?_
  refine am_B.run (hp := false) (sp := []) 200 rfl ?_
  refine am_B.callVC (rc := 0) (rs := 0) (ci := 0) (n := 1) (as := [.int a]) rfl rfl rfl (xx_fitness h X a) rfl rfl (by exact Nat.le_of_ble_eq_true rfl) rfl h1 rfl rfl (fun _ _ z => z.elim) (fun En h' z => ?_)
  obtain ⟨rfl, d, rfl⟩ := z
  refine ⟨[], [(0, 8, 14, 13)], (0, 8, 11, 25), "java/lang/IndexOutOfBoundsException", _, 3, rfl, (fun z hz => by cases hz), ⟨Nat.le_of_ble_eq_true rfl, Nat.le_of_ble_eq_true rfl⟩, by decide, lk_O, List.mem_of_getElem? (i := 2) rfl, rfl, Or.inl ⟨⟨3, by decide⟩, rfl, rfl⟩, rfl, ?_⟩
  refine am_B.run (hp := false) (sp := []) 200 rfl ?_
  exact am_B.toW (am_B.iret rfl rfl rfl ⟨rfl, (oL.xk (xk.rf h)).rep _⟩)
set_option maxRecDepth 100000 in
set_option maxHeartbeats 4000000 in
theorem ls_total (h : am_H) (X : xF h) (l : Nat) (hl : l < 6) (g0 : Nat → Int64) (h69 : h[69]? = some (la g0)) : am_CtW am_G0 m_LW_total [(0, 10, 13, 25), (0, 10, 17, 13)] 9 1 6 [.ref 1, .int (nI 1), .int (nI l), .ref 69] h (sQ h (nI 0).toInt64) := by
  have h1 := X.2.1
  refine am_CtW.of (E := E_LW_total) e_LW_total (by decide) (Nat.le_of_ble_eq_true rfl) ?_
  refine am_B.run (hp := false) (sp := []) 200 rfl ?_
  refine am_B.callV (rc := 1) (rs := 6) (ci := 0) (n := 2) (as := [.int (nI 1), .int (nI l)]) rfl rfl rfl (xx_total h X l hl) rfl rfl (by exact Nat.le_of_ble_eq_true rfl) rfl h1 rfl rfl (fun v h' z => ?_)
  obtain ⟨rfl, rfl⟩ := z
  have xk1 := xk_hE h
  have hc : _ = some (la g0) := (xk1.2 69 (Or.inr (by decide))).trans h69
  refine am_B.run (hp := false) (sp := []) 200 rfl ?_
  refine am_B.ast rfl hc (vp_n (show 0 < 1 by decide) rfl) rfl ?_
  rw [nI_clamp (show 0 < 2 ^ 31 by decide)]
  refine am_B.run (hp := false) (sp := []) 200 rfl ?_
  exact am_B.toW (am_B.iret rfl rfl rfl ⟨rfl, (oL.xk xk1).set (Or.inl rfl) _, _, gs_s hc, rfl⟩)
set_option maxRecDepth 100000 in
set_option maxHeartbeats 4000000 in
theorem ls_totalB (h : am_H) (X : xF h) (a b : Int32) (hab : xbad a 3 ∨ (∃ k, k < 3 ∧ a = nI k ∧ ((k = 1 ∧ xbad b 6) ∨ k ≠ 1))) : am_CtW am_G0 m_LW_total [(0, 10, 13, 25), (0, 10, 17, 13)] 9 1 6 [.ref 1, .int a, .int b, .ref 69] h (tQ h 1) := by
  have h1 := X.2.1
  refine am_CtW.of (E := E_LW_total) e_LW_total (by decide) (Nat.le_of_ble_eq_true rfl) ?_
  refine am_B.run (hp := false) (sp := []) 200 rfl ?_
  refine am_B.callVC (rc := 0) (rs := 0) (ci := 0) (n := 2) (as := [.int a, .int b]) rfl rfl rfl (xx_totalX h X a b hab) rfl rfl (by exact Nat.le_of_ble_eq_true rfl) rfl h1 rfl rfl (fun _ _ z => z.elim) (fun En h' z => ?_)
  obtain ⟨rfl, d, rfl⟩ := z
  refine ⟨[], [(0, 10, 17, 13)], (0, 10, 13, 25), "java/lang/IndexOutOfBoundsException", _, 4, rfl, (fun z hz => by cases hz), ⟨Nat.le_of_ble_eq_true rfl, Nat.le_of_ble_eq_true rfl⟩, by decide, lk_O, List.mem_of_getElem? (i := 2) rfl, rfl, Or.inr rfl, rfl, ?_⟩
  refine am_B.run (hp := false) (sp := []) 200 rfl ?_
  exact am_B.toW (am_B.iret rfl rfl rfl ⟨rfl, (oL.xk (xk.rf h)).rep _⟩)
set_option maxRecDepth 100000 in
set_option maxHeartbeats 4000000 in
theorem ls_allFitness (h : am_H) (X : xF h) (g0 : Nat → UInt64) (h70 : h[70]? = some (da g0)) : am_CtW am_G0 m_LW_allFitness [(0, 7, 10, 13)] 9 1 6 [.ref 1, .ref 70] h (dQ h FP.dconst1) := by
  have h1 := X.2.1
  refine am_CtW.of (E := E_LW_allFitness) e_LW_allFitness (by decide) (Nat.le_of_ble_eq_true rfl) ?_
  refine am_B.run (hp := false) (sp := []) 200 rfl ?_
  refine am_B.callV (rc := 1) (rs := 6) (ci := 0) (n := 0) (as := []) rfl rfl rfl (xx_allFitness h X) rfl rfl (by exact Nat.le_of_ble_eq_true rfl) rfl h1 rfl rfl (fun v h' z => ?_)
  obtain ⟨rfl, rfl⟩ := z
  have xk1 := xk_hE h
  have hc : _ = some (da g0) := (xk1.2 70 (Or.inr (by decide))).trans h70
  refine am_B.run (hp := false) (sp := []) 200 rfl ?_
  refine am_B.ast rfl hc (vp_n (show 0 < 1 by decide) rfl) rfl ?_
  rw [nI_clamp (show 0 < 2 ^ 31 by decide)]
  refine am_B.run (hp := false) (sp := []) 200 rfl ?_
  exact am_B.toW (am_B.iret rfl rfl rfl ⟨rfl, (oL.xk xk1).set (Or.inr rfl) _, _, gs_s hc, rfl⟩)
set_option maxRecDepth 100000 in
set_option maxHeartbeats 4000000 in
theorem ls_precision (h : am_H) (X : xF h) (g0 : Nat → UInt64) (h70 : h[70]? = some (da g0)) : am_CtW am_G0 m_LW_precision [(0, 7, 10, 13)] 9 1 6 [.ref 1, .ref 70] h (dQ h FP.dconst1) := by
  have h1 := X.2.1
  refine am_CtW.of (E := E_LW_precision) e_LW_precision (by decide) (Nat.le_of_ble_eq_true rfl) ?_
  refine am_B.run (hp := false) (sp := []) 200 rfl ?_
  refine am_B.callV (rc := 1) (rs := 6) (ci := 0) (n := 0) (as := []) rfl rfl rfl (xx_precision h X) rfl rfl (by exact Nat.le_of_ble_eq_true rfl) rfl h1 rfl rfl (fun v h' z => ?_)
  obtain ⟨rfl, x, rfl⟩ := z
  have xk1 := (xk_hE h).set (a := 52) (by decide) x
  have hc : _ = some (da g0) := (xk1.2 70 (Or.inr (by decide))).trans h70
  refine am_B.run (hp := false) (sp := []) 200 rfl ?_
  refine am_B.ast rfl hc (vp_n (show 0 < 1 by decide) rfl) rfl ?_
  rw [nI_clamp (show 0 < 2 ^ 31 by decide)]
  refine am_B.run (hp := false) (sp := []) 200 rfl ?_
  exact am_B.toW (am_B.iret rfl rfl rfl ⟨rfl, (oL.xk xk1).set (Or.inr rfl) _, _, gs_s hc, rfl⟩)
