/-! THE FRESH REFERENCE (53 its object, 54 labels .. 68 ahead; 69, 70 the law's own) -/
abbrev c_M (th pl tr fi wa bf tc kn tm mk : Int32) : am_C := .inr (5, [.int th, .int pl, .int tr, .ref 54, .ref 55, .ref 56, .ref 57, .int fi, .int wa, .ref 58, .int bf, .ref 59, .int tc, .ref 60, .ref 61, .ref 62, .int kn, .int tm, .int mk, .ref 63, .ref 64, .ref 65, .int 0, .int 0, .int 0, .ref 66, .ref 67, .ref 68, .int 0])
abbrev c_M0 : am_C := c_M (nI 0) (nI 0) (nI 0) (nI 0) (nI 0) (nI 0) (nI 0) (nI 0) (nI 0) (nI 0)
abbrev c_ML (th : Int32) : am_C := c_M th (nI 0) (nI 0) (nI 0) (nI 0) (nI 0) (nI 0) (nI 1) (nI 0) (nI 1)
def one6 : Nat → Int32 := upd (upd (upd (upd (upd (upd (fun _ => 0) 0 (nI 1)) 1 (nI 1)) 2 (nI 1)) 3 (nI 1)) 4 (nI 1)) 5 (nI 1)
theorem one6_at {l : Nat} (hl : l < 6) : one6 l = nI 1 := by
  obtain rfl | rfl | rfl | rfl | rfl | rfl : l = 0 ∨ l = 1 ∨ l = 2 ∨ l = 3 ∨ l = 4 ∨ l = 5 := by omega
  all_goals rfl
def mF (h : am_H) : Prop := 71 ≤ h.length ∧ h[53]? = some c_M0 ∧ h[54]? = some (z_ 10) ∧ h[55]? = some (z_ 10) ∧ h[56]? = some (z_ 10) ∧ h[57]? = some (z_ 10) ∧ h[58]? = some (ia 6 one6) ∧ h[59]? = some (z_ 8) ∧ h[60]? = some (z_ 8) ∧ h[61]? = some (z_ 8) ∧ h[63]? = some (z_ 200)
def mP (k : Nat) (h h' : am_H) : Prop := h.length ≤ h'.length ∧ (∀ a, a = 0 ∨ a = 69 ∨ a = 70 → h'[a]? = h[a]?) ∧ ∃ vs, h'[53]? = some (.inr (5, vs)) ∧ vs[0]? = some (.int (nI k))
theorem mP.rf {h : am_H} (M : mF h) : mP 0 h h := ⟨Nat.le_refl _, fun _ _ => rfl, _, M.2.1, rfl⟩
theorem mP.set {k : Nat} {h h' : am_H} (p : mP k h h') {a : Nat} (ha : a ≠ 0 ∧ a ≠ 53 ∧ a ≠ 69 ∧ a ≠ 70) (x : am_C) : mP k h (h'.set a x) :=
  ⟨by rw [List.length_set]; exact p.1, fun b hb => by rw [List.getElem?_set_ne (by omega)]; exact p.2.1 b hb, by obtain ⟨vs, q1, q2⟩ := p.2.2; exact ⟨vs, by rw [List.getElem?_set_ne ha.2.1]; exact q1, q2⟩⟩
theorem mP.set53 {k k' : Nat} {h h' : am_H} (p : mP k h h') {vs : List Value} (hv : vs[0]? = some (.int (nI k'))) : mP k' h (h'.set 53 (.inr (5, vs))) :=
  ⟨by rw [List.length_set]; exact p.1, fun b hb => by rw [List.getElem?_set_ne (by omega)]; exact p.2.1 b hb, vs, by obtain ⟨us, q1, q2⟩ := p.2.2; exact gs_s q1, hv⟩
theorem mP.app {k : Nat} {h h' : am_H} (p : mP k h h') (hl : 71 ≤ h.length) (x : am_C) : mP k h (h' ++ [x]) :=
  ⟨by rw [List.length_append]; have := p.1; omega, fun b hb => by rw [List.getElem?_append_left (by have := p.1; omega)]; exact p.2.1 b hb, by obtain ⟨vs, q1, q2⟩ := p.2.2; exact ⟨vs, by rw [List.getElem?_append_left (by have := p.1; omega)]; exact q1, q2⟩⟩
def mL (X : am_C) (h : am_H) : am_H := (h.set 53 X).set 63 (ia 200 (upd (fun _ => 0) 0 (nI 0)))
theorem mL_s {X Y : am_C} {h : am_H} : (mL X h).set 53 Y = mL Y h := by
  unfold mL
  rw [List.set_comm _ _ (by decide : (63 : Nat) ≠ 53), gs_ss]
theorem mL_53 {X : am_C} {h : am_H} (M : mF h) : (mL X h)[53]? = some X := gs_n (by decide) (gs_s M.2.1)
theorem mL_63 {X : am_C} {h : am_H} (M : mF h) : (mL X h)[63]? = some (ia 200 (upd (fun _ => 0) 0 (nI 0))) := gs_s (gs_n (by decide) M.2.2.2.2.2.2.2.2.2.2)
theorem mL_P {k : Nat} {h : am_H} (M : mF h) {vs : List Value} (hv : vs[0]? = some (.int (nI k))) : mP k h (mL (.inr (5, vs)) h) := ((mP.rf M).set53 hv).set (by decide) _
set_option maxRecDepth 100000 in
set_option maxHeartbeats 4000000 in
theorem mt_no (f : Nat) (h : am_H) (k : Nat) (vs : List Value) (h53 : h[53]? = some (.inr (5, vs))) (hl : vs.length = 29) : am_Ct am_G0 m_MO_no f 0 0 [.ref 53, .int (nI k)] h (fun v h' => v = some (.int (nI 0)) ∧ h' = h.set 53 (.inr (5, vs.set 0 (.int (nI k))))) := by
  refine am_Ct.of (E := E_MO_no) e_MO_no (by decide) (Nat.le_of_ble_eq_true rfl) ?_
  refine am_B.run (hp := false) (sp := []) 200 rfl ?_
  refine am_B.put rfl rfl rfl h53 rfl (by rw [hl]; exact Nat.le_of_ble_eq_true rfl) rfl (fun q => by cases q) ?_
  refine am_B.run (hp := false) (sp := []) 200 rfl ?_
  exact am_B.iret rfl rfl rfl ⟨rfl, rfl⟩
set_option maxRecDepth 100000 in
set_option maxHeartbeats 4000000 in
theorem mt_isIn0 (f : Nat) (h : am_H) (x c : Int32) (n : Nat) (hn : n < 2 ^ 31) (hx : xbad x n) (hc : c = nI n - nI 1) : am_Ct am_G0 m_MO_isIn f 0 0 [.int x, .int (nI 0), .int c] h (fun v h' => v = some (.int (nI 0)) ∧ h' = h) := by
  refine am_Ct.of (E := E_MO_isIn) e_MO_isIn (by decide) (Nat.le_of_ble_eq_true rfl) ?_
  refine am_B.run (hp := false) (sp := []) 200 rfl ?_
  rcases hx with hx | ⟨j, q1, q2, rfl⟩
  · refine am_B.icmp_lt rfl rfl (fun _ => ?_) (fun z => absurd hx z)
    refine am_B.run (hp := false) (sp := []) 200 rfl ?_
    exact am_B.zret rfl rfl rfl rfl ⟨rfl, rfl⟩
  · refine am_B.icmp_lt rfl rfl (fun z => absurd z (nI_nlt (Nat.zero_le _) q2)) (fun _ => ?_)
    refine am_B.run (hp := false) (sp := []) 200 rfl ?_
    refine am_B.icmp_gt rfl rfl (fun _ => ?_) (fun z => absurd ?_ z)
    · refine am_B.run (hp := false) (sp := []) 200 rfl ?_
      exact am_B.zret rfl rfl rfl rfl ⟨rfl, rfl⟩
    · subst hc
      cases n with
      | zero =>
        rw [show nI 0 - nI 1 = -1 by decide, Int32.lt_iff_toInt_lt, nI_toInt q2]
        show (-1 : Int) < j
        omega
      | succ n =>
        rw [nI_prd]
        exact nI_lt (by omega) q2
set_option maxRecDepth 100000 in
set_option maxHeartbeats 4000000 in
theorem mt_isIn1 (f : Nat) (h : am_H) (j n : Nat) (c : Int32) (hn : n < 2 ^ 31) (hj : j < n) (hc : c = nI n - nI 1) : am_Ct am_G0 m_MO_isIn f 0 0 [.int (nI j), .int (nI 0), .int c] h (fun v h' => v = some (.int (nI 1)) ∧ h' = h) := by
  refine am_Ct.of (E := E_MO_isIn) e_MO_isIn (by decide) (Nat.le_of_ble_eq_true rfl) ?_
  refine am_B.run (hp := false) (sp := []) 200 rfl ?_
  refine am_B.icmp_lt rfl rfl (fun z => absurd z (nI_nlt (Nat.zero_le _) (by omega))) (fun _ => ?_)
  refine am_B.run (hp := false) (sp := []) 200 rfl ?_
  refine am_B.icmp_gt rfl rfl (fun z => absurd z ?_) (fun _ => ?_)
  · subst hc
    obtain ⟨m, rfl⟩ : ∃ m, n = m + 1 := ⟨n - 1, by omega⟩
    rw [nI_prd]
    exact nI_nlt (by omega) (by omega)
  · refine am_B.run (hp := false) (sp := []) 200 rfl ?_
    exact am_B.zret rfl rfl rfl rfl ⟨rfl, rfl⟩
set_option maxRecDepth 100000 in
set_option maxHeartbeats 4000000 in
theorem mt_isPlace (h : am_H) (x : Int32) (vs : List Value) (h53 : h[53]? = some (.inr (5, vs))) (hv : vs[1]? = some (.int (nI 0))) : am_Ct am_G0 m_MO_isPlace 1 0 0 [.ref 53, .int x] h (fun v h' => v = some (.int (nI 0)) ∧ h' = h) := by
  refine am_Ct.of (E := E_MO_isPlace) e_MO_isPlace (by decide) (Nat.le_of_ble_eq_true rfl) ?_
  refine am_B.run (hp := false) (sp := []) 200 rfl ?_
  refine am_B.get rfl rfl rfl h53 rfl hv ?_
  refine am_B.run (hp := false) (sp := []) 200 rfl ?_
  refine am_B.callS (n := 3) (as := [.int x, .int (nI 0), .int (nI 0 - nI 1)]) rfl rfl rfl (mt_isIn0 0 h x _ 0 (by decide) (xbad_0 x) rfl) rfl rfl (by exact Nat.le_of_ble_eq_true rfl) rfl rfl rfl (fun v h' z => ?_)
  obtain ⟨rfl, rfl⟩ := z
  exact am_B.zret rfl rfl rfl rfl ⟨rfl, rfl⟩
set_option maxRecDepth 100000 in
set_option maxHeartbeats 4000000 in
theorem mt_isTransition (h : am_H) (x : Int32) (vs : List Value) (h53 : h[53]? = some (.inr (5, vs))) (hv : vs[2]? = some (.int (nI 0))) : am_Ct am_G0 m_MO_isTransition 1 0 0 [.ref 53, .int x] h (fun v h' => v = some (.int (nI 0)) ∧ h' = h) := by
  refine am_Ct.of (E := E_MO_isTransition) e_MO_isTransition (by decide) (Nat.le_of_ble_eq_true rfl) ?_
  refine am_B.run (hp := false) (sp := []) 200 rfl ?_
  refine am_B.get rfl rfl rfl h53 rfl hv ?_
  refine am_B.run (hp := false) (sp := []) 200 rfl ?_
  refine am_B.callS (n := 3) (as := [.int x, .int (nI 0), .int (nI 0 - nI 1)]) rfl rfl rfl (mt_isIn0 0 h x _ 0 (by decide) (xbad_0 x) rfl) rfl rfl (by exact Nat.le_of_ble_eq_true rfl) rfl rfl rfl (fun v h' z => ?_)
  obtain ⟨rfl, rfl⟩ := z
  exact am_B.zret rfl rfl rfl rfl ⟨rfl, rfl⟩
set_option maxRecDepth 100000 in
set_option maxHeartbeats 4000000 in
theorem mt_isTrace (h : am_H) (x : Int32) (vs : List Value) (h53 : h[53]? = some (.inr (5, vs))) (hv : vs[12]? = some (.int (nI 0))) : am_Ct am_G0 m_MO_isTrace 1 0 0 [.ref 53, .int x] h (fun v h' => v = some (.int (nI 0)) ∧ h' = h) := by
  refine am_Ct.of (E := E_MO_isTrace) e_MO_isTrace (by decide) (Nat.le_of_ble_eq_true rfl) ?_
  refine am_B.run (hp := false) (sp := []) 200 rfl ?_
  refine am_B.get rfl rfl rfl h53 rfl hv ?_
  refine am_B.run (hp := false) (sp := []) 200 rfl ?_
  refine am_B.callS (n := 3) (as := [.int x, .int (nI 0), .int (nI 0 - nI 1)]) rfl rfl rfl (mt_isIn0 0 h x _ 0 (by decide) (xbad_0 x) rfl) rfl rfl (by exact Nat.le_of_ble_eq_true rfl) rfl rfl rfl (fun v h' z => ?_)
  obtain ⟨rfl, rfl⟩ := z
  exact am_B.zret rfl rfl rfl rfl ⟨rfl, rfl⟩
set_option maxRecDepth 100000 in
set_option maxHeartbeats 4000000 in
theorem mt_isLabel0 (h : am_H) (x : Int32) (hx : xbad x 6) : am_Ct am_G0 m_MO_isLabel 1 0 0 [.int x] h (fun v h' => v = some (.int (nI 0)) ∧ h' = h) := by
  refine am_Ct.of (E := E_MO_isLabel) e_MO_isLabel (by decide) (Nat.le_of_ble_eq_true rfl) ?_
  refine am_B.run (hp := false) (sp := []) 200 rfl ?_
  refine am_B.callS (n := 3) (as := [.int x, .int (nI 0), .int (nI 5)]) rfl rfl rfl (mt_isIn0 0 h x _ 6 (by decide) hx (by decide)) rfl rfl (by exact Nat.le_of_ble_eq_true rfl) rfl rfl rfl (fun v h' z => ?_)
  obtain ⟨rfl, rfl⟩ := z
  exact am_B.zret rfl rfl rfl rfl ⟨rfl, rfl⟩
set_option maxRecDepth 100000 in
set_option maxHeartbeats 4000000 in
theorem mt_isLabel1 (h : am_H) (l : Nat) (hl : l < 6) : am_Ct am_G0 m_MO_isLabel 1 0 0 [.int (nI l)] h (fun v h' => v = some (.int (nI 1)) ∧ h' = h) := by
  refine am_Ct.of (E := E_MO_isLabel) e_MO_isLabel (by decide) (Nat.le_of_ble_eq_true rfl) ?_
  refine am_B.run (hp := false) (sp := []) 200 rfl ?_
  refine am_B.callS (n := 3) (as := [.int (nI l), .int (nI 0), .int (nI 5)]) rfl rfl rfl (mt_isIn1 0 h l 6 _ (by decide) hl (by decide)) rfl rfl (by exact Nat.le_of_ble_eq_true rfl) rfl rfl rfl (fun v h' z => ?_)
  obtain ⟨rfl, rfl⟩ := z
  exact am_B.zret rfl rfl rfl rfl ⟨rfl, rfl⟩
set_option maxRecDepth 100000 in
set_option maxHeartbeats 4000000 in
theorem mt_look (f : Nat) (h : am_H) (M : mF h) : am_Ct am_G0 m_MO_look f 0 0 [.ref 53] h (fun v h' => v = none ∧ h' = mL (c_ML (nI 0)) h) := by
  have m53 := M.2.1
  have m63 := M.2.2.2.2.2.2.2.2.2.2
  refine am_Ct.of (E := E_MO_look) e_MO_look (by decide) (Nat.le_of_ble_eq_true rfl) ?_
  refine am_B.run (hp := false) (sp := []) 200 rfl ?_
  refine am_B.get rfl rfl rfl (by first | assumption | exact gs_s (by first | assumption | exact gs_s (by first | assumption | exact gs_s (by assumption) | (refine gs_n (by decide) ?_; assumption)) | (refine gs_n (by decide) ?_; first | assumption | exact gs_s (by assumption) | (refine gs_n (by decide) ?_; assumption))) | (refine gs_n (by decide) ?_; first | assumption | exact gs_s (by first | assumption | exact gs_s (by assumption) | (refine gs_n (by decide) ?_; assumption)) | (refine gs_n (by decide) ?_; first | assumption | exact gs_s (by assumption) | (refine gs_n (by decide) ?_; assumption)))) rfl rfl ?_
  refine am_B.if_eq rfl rfl (fun _ => ?_) (fun z => absurd rfl z)
  refine am_B.run (hp := false) (sp := []) 200 rfl ?_
  refine am_B.put rfl rfl rfl (by first | assumption | exact gs_s (by first | assumption | exact gs_s (by first | assumption | exact gs_s (by assumption) | (refine gs_n (by decide) ?_; assumption)) | (refine gs_n (by decide) ?_; first | assumption | exact gs_s (by assumption) | (refine gs_n (by decide) ?_; assumption))) | (refine gs_n (by decide) ?_; first | assumption | exact gs_s (by first | assumption | exact gs_s (by assumption) | (refine gs_n (by decide) ?_; assumption)) | (refine gs_n (by decide) ?_; first | assumption | exact gs_s (by assumption) | (refine gs_n (by decide) ?_; assumption)))) rfl (Nat.le_of_ble_eq_true rfl) rfl (fun q => by cases q) ?_
  refine am_B.run (hp := false) (sp := []) 200 rfl ?_
  refine am_B.put rfl rfl rfl (gs_s m53) rfl (Nat.le_of_ble_eq_true rfl) rfl (fun q => by cases q) ?_
  rw [gs_ss]
  refine am_B.run (hp := false) (sp := []) 200 rfl ?_
  refine am_B.get rfl rfl rfl (gs_s m53) rfl rfl ?_
  refine am_B.run (hp := false) (sp := []) 200 rfl ?_
  refine am_B.get rfl rfl rfl (gs_s m53) rfl rfl ?_
  refine am_B.ast rfl (gs_n (by decide) m63) (vp_n (show 0 < 200 by decide) rfl) rfl ?_
  rw [nI_clamp (show 0 < 2 ^ 31 by decide)]
  refine am_B.run (hp := false) (sp := []) 200 rfl ?_
  refine am_B.put rfl rfl rfl (gs_n (by decide) (gs_s m53)) rfl (Nat.le_of_ble_eq_true rfl) rfl (fun q => by cases q) ?_
  rw [List.set_comm _ _ (by decide : (63 : Nat) ≠ 53), gs_ss]
  show am_B _ _ _ _ _ _ (mL (c_ML (nI 0)) h) _ _
  refine am_B.run (hp := false) (sp := []) 200 rfl ?_
  refine am_B.get rfl rfl rfl (mL_53 M) rfl rfl ?_
  refine am_B.icmp_ge rfl rfl (fun z => absurd z (by decide)) (fun _ => ?_)
  refine am_B.run (hp := false) (sp := []) 200 rfl ?_
  refine am_B.get rfl rfl rfl (mL_53 M) rfl rfl ?_
  refine am_B.icmp_ge rfl rfl (fun _ => ?_) (fun z => absurd (by decide) z)
  refine am_B.run (hp := false) (sp := []) 200 rfl ?_
  refine am_B.get rfl rfl rfl (mL_53 M) rfl rfl ?_
  refine am_B.icmp_ge rfl rfl (fun _ => ?_) (fun z => absurd (by decide) z)
  exact am_B.vret rfl rfl rfl ⟨rfl, rfl⟩
set_option maxRecDepth 100000 in
set_option maxHeartbeats 4000000 in
theorem mt_numberOf (f : Nat) (h : am_H) (M : mF h) (th : Int32) : am_Ct am_G0 m_MO_numberOf f 0 0 [.ref 53, .int (nI 0)] (mL (c_ML th) h) (fun v h' => v = some (.int (nI 0)) ∧ h' = mL (c_ML th) h) := by
  refine am_Ct.of (E := E_MO_numberOf) e_MO_numberOf (by decide) (Nat.le_of_ble_eq_true rfl) ?_
  refine am_B.run (hp := false) (sp := []) 200 rfl ?_
  refine am_B.get rfl rfl rfl (mL_53 M) rfl rfl ?_
  refine am_B.icmp_ge rfl rfl (fun z => absurd z (by decide)) (fun _ => ?_)
  refine am_B.run (hp := false) (sp := []) 200 rfl ?_
  refine am_B.get rfl rfl rfl (mL_53 M) rfl rfl ?_
  refine am_B.run (hp := false) (sp := []) 200 rfl ?_
  refine am_B.ald rfl (mL_63 M) (vp_n (show 0 < 200 by decide) rfl) rfl ?_
  rw [nI_clamp (show 0 < 2 ^ 31 by decide), upd_s]
  refine am_B.run (hp := false) (sp := []) 200 rfl ?_
  refine am_B.icmp_ne rfl rfl (fun z => absurd rfl z) (fun _ => ?_)
  refine am_B.run (hp := false) (sp := []) 200 rfl ?_
  exact am_B.iret rfl rfl rfl ⟨rfl, rfl⟩
set_option maxRecDepth 100000 in
set_option maxHeartbeats 4000000 in
theorem mt_enabledIn (f : Nat) (h : am_H) (M : mF h) (th : Int32) : am_Ct am_G0 m_MO_enabledIn f 0 0 [.ref 53, .int (nI 0)] (mL (c_ML th) h) (fun v h' => v = some (.int (nI 0)) ∧ h' = mL (c_ML th) h) := by
  refine am_Ct.of (E := E_MO_enabledIn) e_MO_enabledIn (by decide) (Nat.le_of_ble_eq_true rfl) ?_
  refine am_B.run (hp := false) (sp := []) 200 rfl ?_
  refine am_B.get rfl rfl rfl (mL_53 M) rfl rfl ?_
  refine am_B.icmp_ge rfl rfl (fun _ => ?_) (fun z => absurd (by decide) z)
  refine am_B.run (hp := false) (sp := []) 200 rfl ?_
  exact am_B.iret rfl rfl rfl ⟨rfl, rfl⟩
set_option maxRecDepth 100000 in
set_option maxHeartbeats 4000000 in
theorem mt_asks0 (h : am_H) (M : mF h) (x : Int32) (hx : xbad x 1) : am_Ct am_G0 m_MO_asks 1 0 0 [.ref 53, .int x] h (fun v h' => v = some (.int (nI 0)) ∧ h' = mL (c_ML (nI 2)) h) := by
  have m53 := M.2.1
  refine am_Ct.of (E := E_MO_asks) e_MO_asks (by decide) (Nat.le_of_ble_eq_true rfl) ?_
  refine am_B.run (hp := false) (sp := []) 200 rfl ?_
  refine am_B.callV (ci := 5) (n := 0) (as := []) rfl rfl rfl (mt_look 0 h M) rfl rfl (by exact Nat.le_of_ble_eq_true rfl) rfl m53 rfl rfl (fun v h' z => ?_)
  obtain ⟨rfl, rfl⟩ := z
  refine am_B.run (hp := false) (sp := []) 200 rfl ?_
  refine am_B.get rfl rfl rfl (mL_53 M) rfl rfl ?_
  refine am_B.if_eq rfl rfl (fun _ => ?_) (fun z => absurd rfl z)
  refine am_B.run (hp := false) (sp := []) 200 rfl ?_
  refine am_B.get rfl rfl rfl (mL_53 M) rfl rfl ?_
  refine am_B.run (hp := false) (sp := []) 200 rfl ?_
  refine am_B.callS (n := 3) (as := [.int x, .int (nI 0), .int (nI 1 - nI 1)]) rfl rfl rfl (mt_isIn0 0 _ x _ 1 (by decide) hx rfl) rfl rfl (by exact Nat.le_of_ble_eq_true rfl) rfl rfl rfl (fun v h' z => ?_)
  obtain ⟨rfl, rfl⟩ := z
  refine am_B.if_ne rfl rfl (fun z => absurd rfl z) (fun _ => ?_)
  refine am_B.run (hp := false) (sp := []) 200 rfl ?_
  refine am_B.put rfl rfl rfl (mL_53 M) rfl (Nat.le_of_ble_eq_true rfl) rfl (fun q => by cases q) ?_
  rw [mL_s]
  refine am_B.run (hp := false) (sp := []) 200 rfl ?_
  refine am_B.get rfl rfl rfl (mL_53 M) rfl rfl ?_
  refine am_B.if_ne rfl rfl (fun _ => ?_) (fun z => absurd z (by decide))
  refine am_B.run (hp := false) (sp := []) 200 rfl ?_
  exact am_B.zret rfl rfl rfl rfl ⟨rfl, rfl⟩
set_option maxRecDepth 100000 in
set_option maxHeartbeats 4000000 in
theorem mt_asks1 (h : am_H) (M : mF h) : am_Ct am_G0 m_MO_asks 1 0 0 [.ref 53, .int (nI 0)] h (fun v h' => v = some (.int (nI 1)) ∧ h' = mL (c_ML (nI 0)) h) := by
  have m53 := M.2.1
  refine am_Ct.of (E := E_MO_asks) e_MO_asks (by decide) (Nat.le_of_ble_eq_true rfl) ?_
  refine am_B.run (hp := false) (sp := []) 200 rfl ?_
  refine am_B.callV (ci := 5) (n := 0) (as := []) rfl rfl rfl (mt_look 0 h M) rfl rfl (by exact Nat.le_of_ble_eq_true rfl) rfl m53 rfl rfl (fun v h' z => ?_)
  obtain ⟨rfl, rfl⟩ := z
  refine am_B.run (hp := false) (sp := []) 200 rfl ?_
  refine am_B.get rfl rfl rfl (mL_53 M) rfl rfl ?_
  refine am_B.if_eq rfl rfl (fun _ => ?_) (fun z => absurd rfl z)
  refine am_B.run (hp := false) (sp := []) 200 rfl ?_
  refine am_B.get rfl rfl rfl (mL_53 M) rfl rfl ?_
  refine am_B.run (hp := false) (sp := []) 200 rfl ?_
  refine am_B.callS (n := 3) (as := [.int (nI 0), .int (nI 0), .int (nI 1 - nI 1)]) rfl rfl rfl (mt_isIn1 0 _ 0 1 _ (by decide) (by decide) rfl) rfl rfl (by exact Nat.le_of_ble_eq_true rfl) rfl rfl rfl (fun v h' z => ?_)
  obtain ⟨rfl, rfl⟩ := z
  refine am_B.if_ne rfl rfl (fun _ => ?_) (fun z => absurd z (by decide))
  refine am_B.run (hp := false) (sp := []) 200 rfl ?_
  refine am_B.put rfl rfl rfl (mL_53 M) rfl (Nat.le_of_ble_eq_true rfl) rfl (fun q => by cases q) ?_
  rw [mL_s]
  refine am_B.run (hp := false) (sp := []) 200 rfl ?_
  refine am_B.get rfl rfl rfl (mL_53 M) rfl rfl ?_
  refine am_B.if_ne rfl rfl (fun z => absurd rfl z) (fun _ => ?_)
  refine am_B.run (hp := false) (sp := []) 200 rfl ?_
  exact am_B.zret rfl rfl rfl rfl ⟨rfl, rfl⟩
set_option maxRecDepth 100000 in
set_option maxHeartbeats 4000000 in
theorem mt_asksTrace (h : am_H) (M : mF h) (x : Int32) : am_Ct am_G0 m_MO_asksTrace 2 0 0 [.ref 53, .int x] h (fun v h' => v = some (.int (nI 0)) ∧ h' = mL (c_ML (nI 1)) h) := by
  have m53 := M.2.1
  refine am_Ct.of (E := E_MO_asksTrace) e_MO_asksTrace (by decide) (Nat.le_of_ble_eq_true rfl) ?_
  refine am_B.run (hp := false) (sp := []) 200 rfl ?_
  refine am_B.callV (ci := 5) (n := 0) (as := []) rfl rfl rfl (mt_look 0 h M) rfl rfl (by exact Nat.le_of_ble_eq_true rfl) rfl m53 rfl rfl (fun v h' z => ?_)
  obtain ⟨rfl, rfl⟩ := z
  refine am_B.run (hp := false) (sp := []) 200 rfl ?_
  refine am_B.callV (ci := 5) (n := 1) (as := [.int x]) rfl rfl rfl (mt_isTrace _ x _ (mL_53 M) rfl) rfl rfl (by exact Nat.le_of_ble_eq_true rfl) rfl (mL_53 M) rfl rfl (fun v h' z => ?_)
  obtain ⟨rfl, rfl⟩ := z
  refine am_B.if_ne rfl rfl (fun z => absurd rfl z) (fun _ => ?_)
  refine am_B.run (hp := false) (sp := []) 200 rfl ?_
  refine am_B.put rfl rfl rfl (mL_53 M) rfl (Nat.le_of_ble_eq_true rfl) rfl (fun q => by cases q) ?_
  rw [mL_s]
  refine am_B.run (hp := false) (sp := []) 200 rfl ?_
  refine am_B.get rfl rfl rfl (mL_53 M) rfl rfl ?_
  refine am_B.if_ne rfl rfl (fun _ => ?_) (fun z => absurd z (by decide))
  refine am_B.run (hp := false) (sp := []) 200 rfl ?_
  exact am_B.zret rfl rfl rfl rfl ⟨rfl, rfl⟩

