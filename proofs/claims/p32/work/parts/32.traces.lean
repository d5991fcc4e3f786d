/-! THE LAW STORES TRACES -/
theorem am_B.more {E : am_E} {R : Room} {Z : am_Z} {pc : Nat} {lo : am_L} {st : List Value} {h : am_H} {rc rs rc' rs' : Nat} (k : am_B E R Z pc lo st h rc rs) (h1 : rc ≤ rc') (h2 : rs ≤ rs') : am_B E R Z pc lo st h rc' rs' := by
  intro ok l D cA sb base p e s m args below meth c C H locs cells slots ls hR hS g1 g2 hl
  exact k ok l D cA sb base p e s m args below meth c C H locs cells slots ls hR hS (by omega) (by omega) hl
/-- of stored trace j: its length, its labels in the law's own row and in the aligner's -/
def tRow (sz : Nat → Int32) (LB : Nat → Nat → Int32) (trc : Nat → Option Nat) (E : am_H) (j : Nat) : Prop :=
  ∃ n g, n < 6 ∧ sz j = nI n ∧ trc j = some (58 + j) ∧ E[j]? = some (ia n g) ∧ ∀ i, i < n → ∃ l, l < 3 ∧ g i = nI l ∧ LB j i = nI l
def tPost (sc : am_C) (P T : Nat) (gl gco gi go gft glt cnt rws tok : Nat → Int32) : Option Value → am_H → Prop := fun v h' => ∃ many gb sz tm LB trc tms E, 1 ≤ many ∧ many ≤ 3 ∧ v = some (.int (nI many)) ∧ E.length = many ∧
  h' = XW sc 0 many P T gl gco gi go gft glt gb sz tm LB cnt rws trc tok ++ (ia 8 tms :: E) ∧ ∀ j, j < many → tRow sz LB trc E j
abbrev tB (Q : Option Value → am_H → Prop) (pc : Nat) (lo : am_L) (st : List Value) (h : am_H) (rc rs : Nat) : Prop := am_B E_LW_traces (am_rm 3 3 15) (am_ZM E_LW_traces 3 15 Q) pc lo st h rc rs
theorem tr_get {trc : Nat → Option Nat} {k a : Nat} (hk : k < 2 ^ 31) (h : trc k = some a) : am_aget .aaload 5 (8, .inr (.inr (.inr (.inr trc)))) (nI k).toNatClampNeg = some (.ref a) := by
  rw [nI_clamp hk]
  show some (am_rv trc k) = _
  unfold am_rv
  rw [h]
section XE
variable {sc : am_C} {nb nt P T : Nat} {gl gco gi go gft glt gb sz tm cnt rws tok : Nat → Int32} {LB : Nat → Nat → Int32} {trc : Nat → Option Nat} {E : am_H} {a b x y : am_C} {k : Nat}
theorem xe_g57 : (XW sc nb nt P T gl gco gi go gft glt gb sz tm LB cnt rws trc tok ++ (a :: E))[57]? = some a := rfl
theorem xe_s57 : (XW sc nb nt P T gl gco gi go gft glt gb sz tm LB cnt rws trc tok ++ (a :: E)).set 57 b = XW sc nb nt P T gl gco gi go gft glt gb sz tm LB cnt rws trc tok ++ (b :: E) := rfl
theorem xe_g : (XW sc nb nt P T gl gco gi go gft glt gb sz tm LB cnt rws trc tok ++ (a :: E))[58 + k]? = E[k]? := by
  rw [show 58 + k = (k + 1) + 57 by omega, xw_ge, List.getElem?_cons_succ]
theorem xe_s : (XW sc nb nt P T gl gco gi go gft glt gb sz tm LB cnt rws trc tok ++ (a :: E)).set (58 + k) x = XW sc nb nt P T gl gco gi go gft glt gb sz tm LB cnt rws trc tok ++ (a :: E.set k x) := by
  rw [show 58 + k = (k + 1) + 57 by omega, xw_se, List.set_cons_succ]
theorem xe_len : (XW sc nb nt P T gl gco gi go gft glt gb sz tm LB cnt rws trc tok ++ (a :: E)).length = 58 + E.length := by
  rw [List.length_append, xw_len, List.length_cons]
  omega
theorem xe_app : (XW sc nb nt P T gl gco gi go gft glt gb sz tm LB cnt rws trc tok ++ (a :: E)) ++ [x] = XW sc nb nt P T gl gco gi go gft glt gb sz tm LB cnt rws trc tok ++ (a :: (E ++ [x])) := by
  rw [List.append_assoc, List.cons_append]
theorem xe_last (h : E.length = k) : (E ++ [x])[k]? = some x := by
  subst h
  simp
theorem xe_slast (h : E.length = k) : (E ++ [x]).set k y = E ++ [y] := by
  subst h
  rw [List.set_append_right _ _ (Nat.le_refl _), Nat.sub_self]
  rfl
end XE
set_option maxRecDepth 100000 in
set_option maxHeartbeats 4000000 in
theorem tr_events (Q : Option Value → am_H → Prop) (rc rs k n many : Nat) (hk : k < 3) (hn : n < 6) (sc : am_C) (P T : Nat) (gl gco gi go gft glt sz tm cnt rws tok tms : Nat → Int32) (LB : Nat → Nat → Int32) (trc : Nat → Option Nat) (E : am_H) (x : Int32) (hE : E.length = k) (htrc : trc k = some (58 + k))
    (k111 : ∀ gb g, (∀ i, i < n → ∃ l, l < 3 ∧ g i = nI l ∧ gb i = nI l) → tB Q 111 [some (.ref 1), some (.ref 0), some (.int (nI 9)), some (.int (nI 3)), some (.ref 55), some (.ref 57), some (.int (nI many)), some (.int (nI k)), some (.int x), some (.int (nI n))] [] (XW sc n k P T gl gco gi go gft glt gb sz tm LB cnt rws trc tok ++ (ia 8 tms :: (E ++ [ia n g]))) rc rs) :
    ∀ d i, i + d = n → ∀ gb g, (∀ i', i' < i → ∃ l, l < 3 ∧ g i' = nI l ∧ gb i' = nI l) → tB Q 52 [some (.ref 1), some (.ref 0), some (.int (nI 9)), some (.int (nI 3)), some (.ref 55), some (.ref 57), some (.int (nI many)), some (.int (nI k)), some (.int x), some (.int (nI i))] [] (XW sc i k P T gl gco gi go gft glt gb sz tm LB cnt rws trc tok ++ (ia 8 tms :: (E ++ [ia n g]))) rc rs := by
  intro d
  induction d with
  | zero =>
    intro i hi gb g e1
    obtain rfl : i = n := by omega
    refine am_B.run (hp := false) (sp := []) 200 rfl ?_
    refine am_B.ald rfl xw_g55 (vp_n (show k < 8 by omega) rfl) (tr_get (by omega) htrc) ?_
    refine am_B.alen rfl rfl (xe_g.trans (xe_last hE)) (Or.inl ⟨by decide, rfl⟩) ?_
    refine am_B.icmp_ge rfl rfl (fun _ => ?_) (fun z => absurd (nI_le (Nat.le_refl _) (by omega)) z)
    exact k111 gb g e1
  | succ d ih =>
    intro i hi gb g e1
    refine am_B.run (hp := false) (sp := []) 200 rfl ?_
    refine am_B.ald rfl xw_g55 (vp_n (show k < 8 by omega) rfl) (tr_get (by omega) htrc) ?_
    refine am_B.alen rfl rfl (xe_g.trans (xe_last hE)) (Or.inl ⟨by decide, rfl⟩) ?_
    refine am_B.icmp_ge rfl rfl (fun z => absurd z (nI_ge (show i < n by omega) (by omega))) (fun _ => ?_)
    refine am_B.run (hp := false) (sp := []) 200 rfl ?_
    refine am_B.ald rfl xw_g55 (vp_n (show k < 8 by omega) rfl) (tr_get (by omega) htrc) ?_
    refine am_B.run (hp := false) (sp := []) 200 rfl ?_
    refine am_B.callS (n := 2) (as := [.int _, .int (nI 3)]) rfl rfl rfl (ct_LW_below 0 _ _ 3 (by decide) (by decide)) rfl rfl (by exact Nat.le_of_ble_eq_true rfl) rfl rfl rfl (fun v h' z => ?_)
    obtain ⟨rfl, r, hr, rfl⟩ := z
    refine am_B.ast rfl (xe_g.trans (xe_last hE)) (vp_nI (show i < n by omega) (by omega)) rfl ?_
    rw [nI_clamp (show i < 2 ^ 31 by omega), xe_s, xe_slast hE]
    refine am_B.run (hp := false) (sp := []) 200 rfl ?_
    refine am_B.ald rfl xw_g55 (vp_n (show k < 8 by omega) rfl) (tr_get (by omega) htrc) ?_
    refine am_B.run (hp := false) (sp := []) 200 rfl ?_
    refine am_B.ald rfl (xe_g.trans (xe_last hE)) (vp_nI (show i < n by omega) (by omega)) rfl ?_
    rw [nI_clamp (show i < 2 ^ 31 by omega), upd_s]
    refine am_B.callV (ci := 0) (n := 1) (as := [.int (nI r)]) rfl rfl rfl (ct_TA_event _ r i (nI k) gb (by omega) (by omega) xw_g1 xw_g26) rfl rfl (by exact Nat.le_of_ble_eq_true rfl) rfl xw_g1 rfl rfl (fun v h' z => ?_)
    obtain ⟨rfl, rfl⟩ := z
    rw [xw_s26, xw_s1]
    refine am_B.run (hp := false) (sp := []) 200 rfl ?_
    rw [nI_add]
    refine am_B.icmp_eq rfl rfl (fun _ => ?_) (fun z => absurd rfl z)
    refine am_B.run (hp := false) (sp := [52]) 200 rfl ?_
    rw [nI_add]
    refine ih (i + 1) (by omega) _ _ (fun i' h' => ?_)
    by_cases q : i' = i
    · subst q
      exact ⟨r, hr, upd_s, upd_s⟩
    · rw [upd_n q, upd_n q]
      exact e1 i' (by omega)
set_option maxRecDepth 100000 in
set_option maxHeartbeats 4000000 in
theorem ct_LW_traces (L : Nat) (xs : Nat → Int32) (sc : am_C) (hsc : sc = .inl (99, L, .inl xs)) (hL : L < 2 ^ 31) (P T : Nat) (gl gco gi go gft glt cnt rws tok : Nat → Int32) : am_Ct am_G0 m_LW_traces 3 3 15 [.ref 1, .ref 0, .int (nI 9), .int (nI 3), .ref 55, .ref 57]
    (XW sc 0 0 P T gl gco gi go gft glt z0 z0 z0 (fun _ _ => 0) cnt rws (fun _ => none) tok ++ (ia 8 z0 :: [])) (tPost sc P T gl gco gi go gft glt cnt rws tok) := by
  have hg0 : ∀ {nb nt P T : Nat} {gl gco gi go gft glt gb sz tm cnt rws tok : Nat → Int32} {LB : Nat → Nat → Int32} {trc : Nat → Option Nat} {ext : am_H}, (XW sc nb nt P T gl gco gi go gft glt gb sz tm LB cnt rws trc tok ++ ext)[0]? = some (.inl (99, L, .inl xs)) := by
    intros; rw [xw_g0, hsc]
  refine am_Ct.of (E := E_LW_traces) e_LW_traces (by decide) (Nat.le_of_ble_eq_true rfl) ?_
  refine am_B.run (hp := false) (sp := []) 200 rfl ?_
  refine am_B.callS (n := 2) (as := [.ref 0, .int (nI 9)]) rfl rfl rfl (ct_LW_cell 0 _ L 9 xs hL (by omega) hg0) rfl rfl (by exact Nat.le_of_ble_eq_true rfl) rfl rfl rfl (fun v h' z => ?_)
  obtain ⟨rfl, x, rfl⟩ := z
  refine am_B.run (hp := false) (sp := []) 200 rfl ?_
  refine am_B.callS (n := 2) (as := [.int x, .int (nI 3)]) rfl rfl rfl (ct_LW_below 0 _ _ 3 (by decide) (by decide)) rfl rfl (by exact Nat.le_of_ble_eq_true rfl) rfl rfl rfl (fun v h' z => ?_)
  obtain ⟨rfl, k3, hk3, rfl⟩ := z
  have LO : ∀ many, 1 ≤ many → many ≤ 3 → ∀ d k, k + d = many → ∀ gb sz tm LB trc tms E (l8 l9 : Option Value), E.length = k → (∀ j, j < k → tRow sz LB trc E j) →
      tB (tPost sc P T gl gco gi go gft glt cnt rws tok) 16 [some (.ref 1), some (.ref 0), some (.int (nI 9)), some (.int (nI 3)), some (.ref 55), some (.ref 57), some (.int (nI many)), some (.int (nI k)), l8, l9] [] (XW sc 0 k P T gl gco gi go gft glt gb sz tm LB cnt rws trc tok ++ (ia 8 tms :: E)) d (5 * d) := by
    intro many hm1 hm3 d
    induction d with
    | zero =>
      intro k hk gb sz tm LB trc tms E l8 l9 hE e1
      obtain rfl : k = many := by omega
      refine am_B.run (hp := false) (sp := []) 200 rfl ?_
      refine am_B.icmp_ge rfl rfl (fun _ => ?_) (fun z => absurd (nI_le (Nat.le_refl _) (by omega)) z)
      refine am_B.run (hp := false) (sp := []) 200 rfl ?_
      refine am_B.callV (ci := 0) (n := 1) (as := [.int (nI 2)]) rfl rfl rfl (ct_TA_count 0 _ 2 (nI 0) (nI k) (nI P) (nI T) (by decide) xw_g1 xw_g2) rfl rfl (by exact Nat.le_of_ble_eq_true rfl) rfl xw_g1 rfl rfl (fun v h' z => ?_)
      obtain ⟨rfl, rfl⟩ := z
      refine am_B.run (hp := false) (sp := []) 200 rfl ?_
      refine am_B.icmp_ne rfl rfl (fun z => absurd rfl z) (fun _ => ?_)
      refine am_B.run (hp := false) (sp := []) 200 rfl ?_
      exact am_B.iret rfl rfl rfl ⟨k, gb, sz, tm, LB, trc, tms, E, hm1, hm3, rfl, hE, rfl, e1⟩
    | succ d ih =>
      intro k hk gb sz tm LB trc tms E l8 l9 hE e1
      refine am_B.run (hp := false) (sp := []) 200 rfl ?_
      refine am_B.icmp_ge rfl rfl (fun z => absurd z (nI_ge (by omega) (by omega))) (fun _ => ?_)
      refine am_B.run (hp := false) (sp := []) 200 rfl ?_
      rw [nI_add, nI_add]
      refine am_B.callS (rc := d + 1) (rs := 5 * (d + 1)) (n := 2) (as := [.ref 0, .int (nI (9 + 1 + k))]) rfl rfl rfl (ct_LW_cell 0 _ L (9 + 1 + k) xs hL (by omega) hg0) rfl rfl (by exact Nat.le_of_ble_eq_true rfl) rfl rfl rfl (fun v h' z => ?_)
      obtain ⟨rfl, x, rfl⟩ := z
      refine am_B.run (hp := false) (sp := []) 200 rfl ?_
      refine am_B.callS (rc := d + 1) (rs := 5 * (d + 1)) (n := 2) (as := [.int x, .int (nI 6)]) rfl rfl rfl (ct_LW_below 0 _ _ 6 (by decide) (by decide)) rfl rfl (by exact Nat.le_of_ble_eq_true rfl) rfl rfl rfl (fun v h' z => ?_)
      obtain ⟨rfl, n, hn, rfl⟩ := z
      refine am_B.more (rc := d + 1) (rs := 5 * d + n) ?_ (Nat.le_refl _) (by omega)
      refine am_B.newI (n := n) rfl rfl aw_int rfl (by omega) ?_
      rw [xe_len, hE, xe_app]
      refine am_B.aastA (y := (n, fun _ => 0)) rfl rfl xw_g55 (xe_g.trans (xe_last hE)) (vp_n (show k < 8 by omega) rfl) ?_
      rw [nI_clamp (show k < 2 ^ 31 by omega), xw_s55]
      have ht1 : va_up trc k (some (58 + k)) k = some (58 + k) := by unfold va_up; rw [if_pos rfl]
      refine am_B.run (hp := false) (sp := [52]) 200 rfl ?_
      refine tr_events (tPost sc P T gl gco gi go gft glt cnt rws tok) d (5 * d) k n many (by omega) hn sc P T gl gco gi go gft glt sz tm cnt rws tok tms LB _ E x hE ht1 ?_ n 0 (by omega) gb _ (fun i h => absurd h (by omega))
      intro gb g e2
      refine am_B.run (hp := false) (sp := []) 200 rfl ?_
      refine am_B.callS (n := 2) (as := [.int (x >>> (nI 20 &&& 31)), .int (nI 5)]) rfl rfl rfl (ct_LW_below 0 _ _ 5 (by decide) (by decide)) rfl rfl (by exact Nat.le_of_ble_eq_true rfl) rfl rfl rfl (fun v h' z => ?_)
      obtain ⟨rfl, r5, hr5, rfl⟩ := z
      refine am_B.ast rfl xe_g57 (vp_n (show k < 8 by omega) rfl) rfl ?_
      rw [nI_clamp (show k < 2 ^ 31 by omega), xe_s57]
      refine am_B.run (hp := false) (sp := []) 200 rfl ?_
      refine am_B.ald rfl xe_g57 (vp_n (show k < 8 by omega) rfl) rfl ?_
      rw [nI_clamp (show k < 2 ^ 31 by omega), upd_s]
      refine am_B.callV (ci := 0) (n := 1) (as := [.int (nI r5)]) rfl rfl rfl (ct_TA_store _ k n r5 (sz k) (tm k) (nI 0) 0 0 0 (30 + 3 * k) gb (LB k) (by omega) (by omega) (by omega) xw_g1 xw_g27 (xw_gT (by omega)) (xw_gL (by omega)) xw_g26) rfl rfl (by exact Nat.le_of_ble_eq_true rfl) rfl xw_g1 rfl rfl (fun v h' z => ?_)
      obtain ⟨rfl, rfl⟩ := z
      rw [xw_sL (by omega), xw_sT (by omega), xw_s1]
      refine am_B.run (hp := false) (sp := []) 200 rfl ?_
      refine am_B.icmp_ne rfl rfl (fun z => absurd rfl z) (fun _ => ?_)
      refine am_B.run (hp := false) (sp := []) 200 rfl ?_
      refine am_B.callV (ci := 0) (n := 1) (as := [.int (nI k)]) rfl rfl rfl (ct_TA_length _ k (k + 1) (nI 0) (upd sz k (nI n) k) (upd tm k (nI r5) k) (nI 0) 0 0 0 (30 + 3 * k) (by omega) (by omega) xw_g1 xw_g27 (xw_gT (by omega))) rfl rfl (by exact Nat.le_of_ble_eq_true rfl) rfl xw_g1 rfl rfl (fun v h' z => ?_)
      obtain ⟨rfl, rfl⟩ := z
      rw [upd_s]
      refine am_B.run (hp := false) (sp := []) 200 rfl ?_
      refine am_B.ald rfl xw_g55 (vp_n (show k < 8 by omega) rfl) (tr_get (by omega) ht1) ?_
      refine am_B.alen rfl rfl (xe_g.trans (xe_last hE)) (Or.inl ⟨by decide, rfl⟩) ?_
      refine am_B.icmp_eq rfl rfl (fun _ => ?_) (fun z => absurd rfl z)
      refine am_B.run (hp := false) (sp := [16]) 200 rfl ?_
      rw [nI_add]
      refine ih (k + 1) (by omega) _ _ _ _ _ _ _ _ _ (by rw [List.length_append, hE]; rfl) (fun j hj => ?_)
      by_cases q : j = k
      · subst q
        refine ⟨n, g, hn, upd_s, ht1, xe_last hE, fun i hi => ?_⟩
        obtain ⟨l, q1, q2, q3⟩ := e2 i hi
        exact ⟨l, q1, q2, by dsimp only; rw [if_pos rfl, sb_cpy0 hi]; exact q3⟩
      · obtain ⟨n', g', q1, q2, q3, q4, q5⟩ := e1 j (by omega)
        refine ⟨n', g', q1, by rw [upd_n q]; exact q2, by unfold va_up; rw [if_neg q]; exact q3, (List.getElem?_append_left (by omega)).trans q4, fun i hi => ?_⟩
        dsimp only
        rw [if_neg q]
        exact q5 i hi
  refine am_B.run (hp := false) (sp := [16]) 200 rfl ?_
  rw [nI_add]
  exact am_B.more (LO (1 + k3) (by omega) (by omega) (1 + k3) 0 (by omega) z0 z0 z0 (fun _ _ => 0) (fun _ => none) z0 [] _ _ rfl (fun j h => absurd h (by omega))) (by omega) (by omega)
