/-! from the markings on -/
section LAW
variable {nm : String} {L : Nat} {xs : Nat → Int32} {sc : am_C}
set_option maxRecDepth 100000 in
set_option maxHeartbeats 4000000 in
theorem lw_built {many P T : Nat} {gl gco gi go gft glt cnt rws tok gb sz tm tms : Nat → Int32} {LB : Nat → Nat → Int32} {trc : Nat → Option Nat} {E : am_H} (hsc : sc = .inl (99, L, .inl xs)) (hL : L < 2 ^ 31) (hm1 : 1 ≤ many) (hm : many ≤ 3) (hP : P ≤ 4) (hT : T ≤ 6) (hc1 : cnt 1 = nI T) (hrow : ∀ t, t < T → bRow gl gco rws t) (hEl : E.length = many) (hE : ∀ j, j < many → tRow sz LB trc E j) {rc rs : Nat} (hrc : rc = many + 1) (hrs : rs = 3600 * (many + 1)) (l6 l7 l8 l9 l10 l11 l12 l13 : Option Value) :
    lB nm 64 [some (.ref 0), some (.ref 1), some (.ref 53), some (.ref 54), some (.ref 55), some (.int (nI many)), l6, l7, l8, l9, l10, l11, l12, l13] [] (XW sc 0 many P T gl gco gi go gft glt gb sz tm LB cnt rws trc tok ++ (ia 8 tms :: E)) rc rs := by
  have hl : 12 < (XW sc 0 many P T gl gco gi go gft glt gb sz tm LB cnt rws trc tok ++ (ia 8 tms :: E)).length := by rw [xe_len]; omega
  have ct := ct_TA_markings (XW sc 0 many P T gl gco gi go gft glt gb sz tm LB cnt rws trc tok ++ (ia 8 tms :: E)) P T (nI 0) (nI many) 0 0 gi go gft glt (fun _ => 0) (fun _ => 0) (fun _ => 0) hl (by omega) (by omega) xw_g1 xw_g2 xw_g5 xw_g6 xw_g7 xw_g8 xw_g9 xw_g10 xw_g11 xw_g12
  have g1 : (XW sc 0 many P T gl gco gi go gft glt gb sz tm LB cnt rws trc tok ++ (ia 8 tms :: E))[1]? = some (c_TA (nI 0) (nI many)) := xw_g1
  obtain ⟨h0, eh0⟩ : ∃ h0, h0 = XW sc 0 many P T gl gco gi go gft glt gb sz tm LB cnt rws trc tok ++ (ia 8 tms :: E) := ⟨_, rfl⟩
  rw [← eh0] at ct g1 ⊢
  refine am_B.run (hp := false) (sp := []) 200 rfl ?_
  refine am_B.callV (ci := 0) (n := 0) (as := []) rfl rfl rfl ct rfl rfl (by exact Nat.le_of_ble_eq_true rfl) rfl g1 rfl rfl (fun v h' z => ?_)
  obtain ⟨sn, la, gc, ge, gf, rfl, rfl, hg⟩ := z
  rcases hg with ⟨rfl, rfl⟩ | ⟨n, hn1, hn, rfl, hrows, hreach, hla⟩
  · refine am_B.if_ge rfl rfl (fun z => absurd z (by decide)) (fun _ => ?_)
    refine am_B.run (hp := false) (sp := []) 200 rfl ?_
    exact lB.done rfl rfl
  refine am_B.if_ge rfl rfl (fun _ => ?_) (fun z => absurd (nI_le (Nat.zero_le n) (by omega)) z)
  have I : LI (n4 (XW sc 0 many P T gl gco gi go gft glt gb sz tm LB cnt rws trc tok ++ (ia 8 tms :: E)) (c_MG (nI 1) (nI n) la) (ia 200 gc) (ia 200 ge) (ia 2000 gf)) sc many n T P la gl gf gco ge rws cnt trc sz tm LB E 0 := li_of hEl
  rw [← eh0] at I
  obtain ⟨h, eh⟩ : ∃ h, h = n4 h0 (c_MG (nI 1) (nI n) la) (ia 200 gc) (ia 200 ge) (ia 2000 gf) := ⟨_, rfl⟩
  rw [← eh] at I ⊢
  clear eh
  have g1 := I.2.2.1
  have g9 : h[9]? = some (c_MG (nI 1) (nI n) la) := by
    obtain ⟨i0, i1, i2, i3, i4, i5, i6, i7, i8, i9, i10, i11, W, i13, i14, i15⟩ := I
    exact W.2.2.1
  obtain ⟨co, hco⟩ : ∃ co : Nat → Nat, ∀ t, t < T → co t ≤ 9 ∧ rws (4 * t) = gl t ∧ rws (4 * t + 1) = nI (co t) ∧ gco t = nI (co t) ∧ (gl t = -1 ∨ ∃ l, l < 3 ∧ gl t = nI l) := ⟨fun t => if q : t < T then (hrow t q).choose else 0, fun t ht => by
    dsimp only
    rw [dif_pos ht]
    exact (hrow t ht).choose_spec⟩
  have N : netOK n T gl gf ge rws gco co := ⟨hco, hrows⟩
  have hwf : wfF n T gf := fun m hm t ht => by
    obtain ⟨e, -, q⟩ := hrows m hm
    rcases q.2 t ht with ⟨-, z⟩ | ⟨-, z⟩
    · exact Or.inl z
    · exact Or.inr z
  have hre : reachO n T gf := fun k h1 h2 => by
    obtain ⟨m, q1, t, q2, q3⟩ := hreach k h1 h2
    exact ⟨m, t, q1, q2, h2, q3⟩
  refine am_B.run (hp := false) (sp := []) 200 rfl ?_
  refine am_B.callV (ci := 0) (n := 0) (as := []) rfl rfl rfl (ct_TA_last h n (nI 0) (nI many) la (by omega) g1 g9) rfl rfl (by exact Nat.le_of_ble_eq_true rfl) rfl g1 rfl rfl (fun v h2 z => ?_)
  obtain ⟨rfl, rfl⟩ := z
  rcases hla with rfl | ⟨l, hl, rfl⟩
  · refine am_B.if_lt rfl rfl (fun _ => ?_) (fun z => absurd (by decide) z)
    refine am_B.run (hp := false) (sp := [90]) 200 rfl ?_
    subst hrc hrs
    exact lw_none (nm := nm) (sc := sc) (n := n) (T := T) (P := P) (gl := gl) (gf := gf) (gco := gco) (ge := ge) (rws := rws) (cnt := cnt) (tm := tm) hm hn hE (fun h I => lw_rest (ce := 0) I hsc hL hm (by omega) hn hT hc1 hwf hre N) many 0 (by omega) h2 I _ _ _ _ _ _
  · refine am_B.if_lt rfl rfl (fun z => absurd z (nI_nlt (Nat.zero_le _) (by omega))) (fun _ => ?_)
    refine am_B.run (hp := false) (sp := [90]) 200 rfl ?_
    subst hrc hrs
    exact lw_ends (nm := nm) (sc := sc) (n := n) (T := T) (P := P) (gl := gl) (gf := gf) (gco := gco) (ge := ge) (rws := rws) (cnt := cnt) (tm := tm) hm hn hl hT hwf hre N hE (fun h I => lw_rest (ce := 1) I hsc hL hm (by omega) hn hT hc1 hwf hre N) many 0 (by omega) h2 I _ _ _ _ _ _
end LAW
