/-! THE LAW BUILDS A NET -/
theorem nI_shrp {a p : Nat} (ha : a < 2 ^ 31) (hp : p < 10) : nI a >>> (nI p &&& 31) = nI (a / 2 ^ p) := by
  apply Int32.toBitVec_inj.1
  obtain rfl | rfl | rfl | rfl | rfl | rfl | rfl | rfl | rfl | rfl : p = 0 ∨ p = 1 ∨ p = 2 ∨ p = 3 ∨ p = 4 ∨ p = 5 ∨ p = 6 ∨ p = 7 ∨ p = 8 ∨ p = 9 := by omega
  · exact bv_shr a 0 ha
  · exact bv_shr a 1 ha
  · exact bv_shr a 2 ha
  · exact bv_shr a 3 ha
  · exact bv_shr a 4 ha
  · exact bv_shr a 5 ha
  · exact bv_shr a 6 ha
  · exact bv_shr a 7 ha
  · exact bv_shr a 8 ha
  · exact bv_shr a 9 ha
abbrev z0 : Nat → Int32 := fun _ => 0
abbrev bH (sc : am_C) (P T : Nat) (gl gco gi go gft glt cnt rws tok : Nat → Int32) (ext : am_H) : am_H := XW sc 0 0 P T gl gco gi go gft glt z0 z0 z0 (fun _ _ => 0) cnt rws (fun _ => none) tok ++ ext
def bRow (gl gco rws : Nat → Int32) (t : Nat) : Prop := ∃ c, c ≤ 9 ∧ rws (4 * t) = gl t ∧ rws (4 * t + 1) = nI c ∧ gco t = nI c ∧ (gl t = -1 ∨ ∃ l, l < 3 ∧ gl t = nI l)
def bPost (sc : am_C) (ext : am_H) : Option Value → am_H → Prop := fun v h' => v = some (.int (nI 1)) ∧ ∃ P T gl gco gi go gft glt cnt rws tok, h' = bH sc P T gl gco gi go gft glt cnt rws tok ext ∧ P ≤ 4 ∧ T ≤ 6 ∧ cnt 1 = nI T ∧ ∀ t, t < T → bRow gl gco rws t
abbrev bB (Q : Option Value → am_H → Prop) (pc : Nat) (lo : am_L) (st : List Value) (h : am_H) : Prop := am_B E_LW_build (am_rm 3 0 0) (am_ZM E_LW_build 0 0 Q) pc lo st h 0 0
theorem upd_s {g : Nat → Int32} {i : Nat} {v : Int32} : upd g i v i = v := pk_us
theorem upd_n {g : Nat → Int32} {i j : Nat} {v : Int32} (h : j ≠ i) : upd g i v j = g j := pk_un h
-- the links of one transition
set_option maxRecDepth 100000 in
set_option maxHeartbeats 4000000 in
theorem bd_links (L : Nat) (xs : Nat → Int32) (sc : am_C) (hsc : sc = .inl (99, L, .inl xs)) (ext : am_H) (Q : Option Value → am_H → Prop) (P t : Nat) (hP : P ≤ 4) (ht : t < 6) (gl gco gft glt cnt rws tok : Nat → Int32) (x : Int32) (hc0 : cnt 0 = nI P)
    (k504 : ∀ gi go, (∀ i, t + 1 ≤ i → gi i = 0) → (∀ i, t + 1 ≤ i → go i = 0) → bB Q 504 [some (.ref 1), some (.ref 0), some (.int (nI 0)), some (.ref 53), some (.ref 54), some (.ref 56), some (.int (nI t)), some (.int x), some (.int (nI P))] [] (bH sc P (t + 1) gl gco gi go gft glt cnt rws tok ext)) :
    ∀ d p, p + d = P → ∀ gi go mi mo, gi t = nI mi → mi < 2 ^ p → go t = nI mo → mo < 2 ^ p → (∀ i, t + 1 ≤ i → gi i = 0) → (∀ i, t + 1 ≤ i → go i = 0) →
      bB Q 424 [some (.ref 1), some (.ref 0), some (.int (nI 0)), some (.ref 53), some (.ref 54), some (.ref 56), some (.int (nI t)), some (.int x), some (.int (nI p))] [] (bH sc P (t + 1) gl gco gi go gft glt cnt rws tok ext) := by
  have orb : ∀ {m p : Nat}, m < 2 ^ p → p < 10 → nI m ||| (nI 1 <<< (nI p &&& 31)) = nI (m ||| 2 ^ p) ∧ m ||| 2 ^ p < 2 ^ (p + 1) := fun {m p} h1 h2 => by
    refine ⟨by rw [shl1 p h2, fa_or], Nat.or_lt_two_pow ?_ (Nat.pow_lt_pow_right (by decide) (by omega))⟩
    have : 2 ^ p < 2 ^ (p + 1) := Nat.pow_lt_pow_right (by decide) (by omega)
    omega
  have clr : ∀ {m p : Nat}, m < 2 ^ p → p < 10 → (nI m >>> (nI p &&& 31)) &&& nI 1 = 0 := fun {m p} h1 h2 => by
    have h3 : 2 ^ p < 2 ^ 31 := Nat.pow_lt_pow_right (by decide) (by omega)
    rw [nI_shrp (by omega) h2, Nat.div_eq_of_lt h1]
    decide
  intro d
  induction d with
  | zero =>
    intro p hp gi go mi mo e1 e2 e3 e4 e5 e6
    obtain rfl : p = P := by omega
    refine am_B.run (hp := false) (sp := []) 200 rfl ?_
    refine am_B.ald rfl xw_g53 (vp_n (show 0 < 2 by decide) rfl) rfl ?_
    rw [nI_clamp (show 0 < 2 ^ 31 by decide), hc0]
    refine am_B.icmp_ge rfl rfl (fun _ => ?_) (fun z => absurd (nI_le (Nat.le_refl _) (by omega)) z)
    exact k504 gi go e5 e6
  | succ d ih =>
    intro p hp gi go mi mo e1 e2 e3 e4 e5 e6
    have hpw : 2 ^ p < 2 ^ (p + 1) := Nat.pow_lt_pow_right (by decide) (by omega)
    have J498 : ∀ go mo, go t = nI mo → mo < 2 ^ (p + 1) → (∀ i, t + 1 ≤ i → go i = 0) → ∀ gi mi, gi t = nI mi → mi < 2 ^ (p + 1) → (∀ i, t + 1 ≤ i → gi i = 0) →
        bB Q 498 [some (.ref 1), some (.ref 0), some (.int (nI 0)), some (.ref 53), some (.ref 54), some (.ref 56), some (.int (nI t)), some (.int x), some (.int (nI p))] [] (bH sc P (t + 1) gl gco gi go gft glt cnt rws tok ext) := by
      intro go mo f1 f2 f3 gi mi f4 f5 f6
      refine am_B.run (hp := false) (sp := [424]) 200 rfl ?_
      rw [nI_add]
      exact ih (p + 1) (by omega) gi go mi mo f4 f5 f1 f2 f6 f3
    have J465 : ∀ gi mi, gi t = nI mi → mi < 2 ^ (p + 1) → (∀ i, t + 1 ≤ i → gi i = 0) →
        bB Q 465 [some (.ref 1), some (.ref 0), some (.int (nI 0)), some (.ref 53), some (.ref 54), some (.ref 56), some (.int (nI t)), some (.int x), some (.int (nI p))] [] (bH sc P (t + 1) gl gco gi go gft glt cnt rws tok ext) := by
      intro gi mi f4 f5 f6
      refine am_B.run (hp := false) (sp := []) 200 rfl ?_
      rw [pk_mul, nI_add]
      refine am_B.ald rfl xw_g54 (vp_n (show 4 * t + 3 < 40 by omega) rfl) rfl ?_
      refine am_B.run (hp := false) (sp := []) 200 rfl ?_
      refine am_B.icmp_ne rfl rfl (fun _ => J498 go mo e3 (by omega) e6 gi mi f4 f5 f6) (fun _ => ?_)
      refine am_B.run (hp := false) (sp := []) 200 rfl ?_
      refine am_B.callV (ci := 0) (n := 4) (as := [.int (nI t), .int (nI p), .int (nI 0), .int (nI 1)]) rfl rfl rfl (ct_TA_link _ t (t + 1) p P 0 6 (nI 0) (nI 0) go (by omega) (by omega) (by omega) (by omega) (Or.inl ⟨rfl, rfl⟩) xw_g1 xw_g2 xw_g6 xw_calm (by rw [e3]; exact clr e4 (by omega))) rfl rfl (by exact Nat.le_of_ble_eq_true rfl) rfl xw_g1 rfl rfl (fun v h' z => ?_)
      obtain ⟨rfl, rfl⟩ := z
      rw [xw_s6]
      refine am_B.if_eq rfl rfl (fun _ => ?_) (fun z => absurd rfl z)
      have o := orb e4 (show p < 10 by omega)
      exact J498 _ _ (by rw [upd_s, e3]; exact o.1) o.2 (fun i hi => by rw [upd_n (by omega)]; exact e6 i hi) gi mi f4 f5 f6
    refine am_B.run (hp := false) (sp := []) 200 rfl ?_
    refine am_B.ald rfl xw_g53 (vp_n (show 0 < 2 by decide) rfl) rfl ?_
    rw [nI_clamp (show 0 < 2 ^ 31 by decide), hc0]
    refine am_B.icmp_ge rfl rfl (fun z => absurd z (nI_ge (by omega) (by omega))) (fun _ => ?_)
    refine am_B.run (hp := false) (sp := []) 200 rfl ?_
    rw [pk_mul, nI_add]
    refine am_B.ald rfl xw_g54 (vp_n (show 4 * t + 2 < 40 by omega) rfl) rfl ?_
    refine am_B.run (hp := false) (sp := []) 200 rfl ?_
    refine am_B.icmp_ne rfl rfl (fun _ => J465 gi mi e1 (by omega) e5) (fun _ => ?_)
    refine am_B.run (hp := false) (sp := []) 200 rfl ?_
    refine am_B.callV (ci := 0) (n := 4) (as := [.int (nI t), .int (nI p), .int (nI 1), .int (nI 1)]) rfl rfl rfl (ct_TA_link _ t (t + 1) p P 1 5 (nI 0) (nI 0) gi (by omega) (by omega) (by omega) (by omega) (Or.inr ⟨rfl, rfl⟩) xw_g1 xw_g2 xw_g5 xw_calm (by rw [e1]; exact clr e2 (by omega))) rfl rfl (by exact Nat.le_of_ble_eq_true rfl) rfl xw_g1 rfl rfl (fun v h' z => ?_)
    obtain ⟨rfl, rfl⟩ := z
    rw [xw_s5]
    refine am_B.if_eq rfl rfl (fun _ => ?_) (fun z => absurd rfl z)
    have o := orb e2 (show p < 10 by omega)
    exact J465 _ _ (by rw [upd_s, e1]; exact o.1) o.2 (fun i hi => by rw [upd_n (by omega)]; exact e5 i hi)
-- one transition and those behind it
set_option maxRecDepth 100000 in
set_option maxHeartbeats 4000000 in
theorem bd_trans (L : Nat) (xs : Nat → Int32) (sc : am_C) (hsc : sc = .inl (99, L, .inl xs)) (hL : L < 2 ^ 31) (ext : am_H) (P T : Nat) (hP0 : 0 < P) (hP : P ≤ 4) (hT : T ≤ 6) (gft glt cnt tok : Nat → Int32) (hc0 : cnt 0 = nI P) (hc1 : cnt 1 = nI T) :
    ∀ d t, t + d = T → ∀ gl gco gi go rws (l7 l8 : Option Value), (∀ i, t ≤ i → gi i = 0) → (∀ i, t ≤ i → go i = 0) → (∀ t', t' < t → bRow gl gco rws t') →
      bB (bPost sc ext) 205 [some (.ref 1), some (.ref 0), some (.int (nI 0)), some (.ref 53), some (.ref 54), some (.ref 56), some (.int (nI t)), l7, l8] [] (bH sc P t gl gco gi go gft glt cnt rws tok ext) := by
  have hg0 : ∀ {nb nt P T : Nat} {gl gco gi go gft glt gb sz tm cnt rws tok : Nat → Int32} {LB : Nat → Nat → Int32} {trc : Nat → Option Nat} {ext : am_H}, (XW sc nb nt P T gl gco gi go gft glt gb sz tm LB cnt rws trc tok ++ ext)[0]? = some (.inl (99, L, .inl xs)) := by
    intros; rw [xw_g0, hsc]
  intro d
  induction d with
  | zero =>
    intro t ht gl gco gi go rws l7 l8 e1 e2 e3
    obtain rfl : t = T := by omega
    refine am_B.run (hp := false) (sp := []) 200 rfl ?_
    refine am_B.ald rfl xw_g53 (vp_n (show 1 < 2 by decide) rfl) rfl ?_
    rw [nI_clamp (show 1 < 2 ^ 31 by decide), hc1]
    refine am_B.icmp_ge rfl rfl (fun _ => ?_) (fun z => absurd (nI_le (Nat.le_refl _) (by omega)) z)
    refine am_B.run (hp := false) (sp := []) 200 rfl ?_
    refine am_B.callV (ci := 0) (n := 1) (as := [.int (nI 0)]) rfl rfl rfl (ct_TA_count 0 _ 0 (nI 0) (nI 0) (nI P) (nI t) (by decide) xw_g1 xw_g2) rfl rfl (by exact Nat.le_of_ble_eq_true rfl) rfl xw_g1 rfl rfl (fun v h' z => ?_)
    obtain ⟨rfl, rfl⟩ := z
    refine am_B.run (hp := false) (sp := []) 200 rfl ?_
    refine am_B.ald rfl xw_g53 (vp_n (show 0 < 2 by decide) rfl) rfl ?_
    rw [nI_clamp (show 0 < 2 ^ 31 by decide), hc0]
    refine am_B.icmp_ne rfl rfl (fun z => absurd rfl z) (fun _ => ?_)
    refine am_B.run (hp := false) (sp := []) 200 rfl ?_
    refine am_B.callV (ci := 0) (n := 1) (as := [.int (nI 1)]) rfl rfl rfl (ct_TA_count 0 _ 1 (nI 0) (nI 0) (nI P) (nI t) (by decide) xw_g1 xw_g2) rfl rfl (by exact Nat.le_of_ble_eq_true rfl) rfl xw_g1 rfl rfl (fun v h' z => ?_)
    obtain ⟨rfl, rfl⟩ := z
    refine am_B.run (hp := false) (sp := []) 200 rfl ?_
    refine am_B.ald rfl xw_g53 (vp_n (show 1 < 2 by decide) rfl) rfl ?_
    rw [nI_clamp (show 1 < 2 ^ 31 by decide), hc1]
    refine am_B.icmp_ne rfl rfl (fun z => absurd rfl z) (fun _ => ?_)
    refine am_B.run (hp := false) (sp := []) 200 rfl ?_
    exact am_B.zret rfl rfl rfl rfl ⟨rfl, P, t, gl, gco, gi, go, gft, glt, cnt, rws, tok, rfl, hP, hT, hc1, e3⟩
  | succ d ih =>
    intro t ht gl gco gi go rws l7 l8 e1 e2 e3
    refine am_B.run (hp := false) (sp := []) 200 rfl ?_
    refine am_B.ald rfl xw_g53 (vp_n (show 1 < 2 by decide) rfl) rfl ?_
    rw [nI_clamp (show 1 < 2 ^ 31 by decide), hc1]
    refine am_B.icmp_ge rfl rfl (fun z => absurd z (nI_ge (by omega) (by omega))) (fun _ => ?_)
    refine am_B.run (hp := false) (sp := []) 200 rfl ?_
    rw [nI_add, nI_add]
    refine am_B.callS (n := 2) (as := [.ref 0, .int (nI (0 + 1 + t))]) rfl rfl rfl (ct_LW_cell 0 _ L (0 + 1 + t) xs hL (by omega) hg0) rfl rfl (by exact Nat.le_of_ble_eq_true rfl) rfl rfl rfl (fun v h' z => ?_)
    obtain ⟨rfl, x, rfl⟩ := z
    have J563 : ∀ gl gco gi go rws (l8 : Option Value), (∀ i, t + 1 ≤ i → gi i = 0) → (∀ i, t + 1 ≤ i → go i = 0) → (∀ t', t' < t + 1 → bRow gl gco rws t') →
        bB (bPost sc ext) 563 [some (.ref 1), some (.ref 0), some (.int (nI 0)), some (.ref 53), some (.ref 54), some (.ref 56), some (.int (nI t)), some (.int x), l8] [] (bH sc P (t + 1) gl gco gi go gft glt cnt rws tok ext) := by
      intro gl gco gi go rws l8 f1 f2 f3
      refine am_B.run (hp := false) (sp := [205]) 200 rfl ?_
      rw [nI_add]
      exact ih (t + 1) (by omega) gl gco gi go rws _ _ f1 f2 f3
    have J403 : ∀ lv c1 rws', (lv = -1 ∨ ∃ l, l < 3 ∧ lv = nI l) → c1 ≤ 1 → nI c1 = (if lv = -1 then nI 0 else nI 1) → (∀ i, i ≠ 4 * t + 2 → i ≠ 4 * t + 3 → rws' i = upd (upd rws (4 * t) lv) (4 * t + 1) (nI c1) i) → ∀ l8 : Option Value,
        bB (bPost sc ext) 403 [some (.ref 1), some (.ref 0), some (.int (nI 0)), some (.ref 53), some (.ref 54), some (.ref 56), some (.int (nI t)), some (.int x), l8] [] (bH sc P t gl gco gi go gft glt cnt rws' tok ext) := by
      intro lv c1 rws' f1 f2 f3 f4 l8
      have r0 : rws' (4 * t) = lv := by rw [f4 _ (by omega) (by omega), upd_n (by omega), upd_s]
      have r1 : rws' (4 * t + 1) = nI c1 := by rw [f4 _ (by omega) (by omega), upd_s]
      refine am_B.run (hp := false) (sp := []) 200 rfl ?_
      rw [pk_mul]
      refine am_B.ald rfl xw_g54 (vp_n (show 4 * t < 40 by omega) rfl) rfl ?_
      rw [nI_clamp (show 4 * t < 2 ^ 31 by omega), r0]
      refine am_B.callV (ci := 0) (n := 1) (as := [.int lv]) rfl rfl rfl (ct_TA_addTransition _ t (nI 0) (nI 0) (nI P) lv gl gco (by omega) (f1.imp id fun ⟨l, a, b⟩ => ⟨l, by omega, b⟩) xw_g1 xw_g2 xw_g3 xw_g4 xw_calm) rfl rfl (by exact Nat.le_of_ble_eq_true rfl) rfl xw_g1 rfl rfl (fun v h' z => ?_)
      obtain ⟨rfl, rfl⟩ := z
      rw [xw_s3, xw_s4, xw_s2]
      refine am_B.run (hp := false) (sp := []) 200 rfl ?_
      refine am_B.icmp_eq rfl rfl (fun _ => ?_) (fun z => absurd rfl z)
      refine am_B.run (hp := false) (sp := [424]) 200 rfl ?_
      have old : ∀ t', t' < t → bRow (upd gl t lv) (upd gco t (if lv = -1 then nI 0 else nI 1)) rws' t' := fun t' h' => by
        obtain ⟨c, q1, q2, q3, q4, q5⟩ := e3 t' h'
        refine ⟨c, q1, ?_, ?_, ?_, ?_⟩
        · rw [f4 _ (by omega) (by omega), upd_n (by omega), upd_n (by omega), upd_n (by omega)]
          exact q2
        · rw [f4 _ (by omega) (by omega), upd_n (by omega), upd_n (by omega)]
          exact q3
        · rw [upd_n (by omega)]
          exact q4
        · rw [upd_n (by omega)]
          exact q5
      have gx : upd gco t (if lv = -1 then nI 0 else nI 1) t = nI c1 := by rw [upd_s, f3]
      refine bd_links L xs sc hsc ext (bPost sc ext) P t hP (by omega) _ _ gft glt cnt rws' tok x hc0 ?_ P 0 (by omega) gi go 0 0 (e1 t (Nat.le_refl _)) (by decide) (e2 t (Nat.le_refl _)) (by decide) (fun i hi => e1 i (by omega)) (fun i hi => e2 i (by omega))
      intro gi go k1 k2
      refine am_B.run (hp := false) (sp := []) 200 rfl ?_
      refine am_B.callS (n := 2) (as := [.int (x >>> (nI 18 &&& 31)), .int (nI 4)]) rfl rfl rfl (ct_LW_below 0 _ _ 4 (by decide) (by decide)) rfl rfl (by exact Nat.le_of_ble_eq_true rfl) rfl rfl rfl (fun v h' z => ?_)
      obtain ⟨rfl, k4, hk4, rfl⟩ := z
      refine am_B.if_le rfl rfl (fun _ => ?_) (fun _ => ?_)
      · refine am_B.run (hp := false) (sp := []) 200 rfl ?_
        refine am_B.callS (n := 2) (as := [.int (x >>> (nI 20 &&& 31)), .int (nI 4)]) rfl rfl rfl (ct_LW_below 0 _ _ 4 (by decide) (by decide)) rfl rfl (by exact Nat.le_of_ble_eq_true rfl) rfl rfl rfl (fun v h' z => ?_)
        obtain ⟨rfl, cc, hcc, rfl⟩ := z
        refine am_B.run (hp := false) (sp := []) 200 rfl ?_
        refine am_B.callV (ci := 0) (n := 2) (as := [.int (nI t), .int (nI cc)]) rfl rfl rfl (ct_TA_setCost _ t (t + 1) cc (nI 0) (nI 0) (nI P) _ (by omega) (by omega) (by omega) xw_g1 xw_g2 xw_g4 xw_calm) rfl rfl (by exact Nat.le_of_ble_eq_true rfl) rfl xw_g1 rfl rfl (fun v h' z => ?_)
        obtain ⟨rfl, rfl⟩ := z
        rw [xw_s4, gx]
        refine am_B.run (hp := false) (sp := []) 200 rfl ?_
        rw [pk_mul, nI_add]
        refine am_B.ald rfl xw_g54 (vp_n (show 4 * t + 1 < 40 by omega) rfl) rfl ?_
        rw [nI_clamp (show 4 * t + 1 < 2 ^ 31 by omega), r1]
        refine am_B.icmp_eq rfl rfl (fun _ => ?_) (fun z => absurd rfl z)
        refine am_B.run (hp := false) (sp := []) 200 rfl ?_
        rw [pk_mul, nI_add]
        refine am_B.ast rfl xw_g54 (vp_n (show 4 * t + 1 < 40 by omega) rfl) rfl ?_
        rw [nI_clamp (show 4 * t + 1 < 2 ^ 31 by omega), xw_s54]
        refine J563 _ _ gi go _ _ k1 k2 (fun t' h' => ?_)
        by_cases q : t' = t
        · subst q
          exact ⟨cc, by omega, by rw [upd_n (by omega), r0, upd_s], upd_s, upd_s, by rw [upd_s]; exact f1⟩
        · obtain ⟨c, q1, q2, q3, q4, q5⟩ := old t' (by omega)
          exact ⟨c, q1, by rw [upd_n (by omega)]; exact q2, by rw [upd_n (by omega)]; exact q3, by rw [upd_n (by omega)]; exact q4, q5⟩
      · refine am_B.run (hp := false) (sp := [563]) 200 rfl ?_
        refine J563 _ _ gi go _ _ k1 k2 (fun t' h' => ?_)
        by_cases q : t' = t
        · subst q
          exact ⟨c1, by omega, by rw [r0, upd_s], r1, gx, by rw [upd_s]; exact f1⟩
        · exact old t' (by omega)
    have J378 : ∀ lv c1 rws' (m1 m2 : Int32), (lv = -1 ∨ ∃ l, l < 3 ∧ lv = nI l) → c1 ≤ 1 → nI c1 = (if lv = -1 then nI 0 else nI 1) → (∀ i, i ≠ 4 * t + 2 → i ≠ 4 * t + 3 → rws' i = upd (upd rws (4 * t) lv) (4 * t + 1) (nI c1) i) → ∀ l8 : Option Value,
        bB (bPost sc ext) 378 [some (.ref 1), some (.ref 0), some (.int (nI 0)), some (.ref 53), some (.ref 54), some (.ref 56), some (.int (nI t)), some (.int x), l8] [.int m2, .int m1, .int (nI 4 * nI t + nI 3), .ref 54] (bH sc P t gl gco gi go gft glt cnt rws' tok ext) := by
      intro lv c1 rws' m1 m2 f1 f2 f3 f4 l8
      refine am_B.run (hp := false) (sp := []) 200 rfl ?_
      rw [pk_mul, nI_add]
      refine am_B.ast rfl xw_g54 (vp_n (show 4 * t + 3 < 40 by omega) rfl) rfl ?_
      rw [nI_clamp (show 4 * t + 3 < 2 ^ 31 by omega), xw_s54]
      refine am_B.run (hp := false) (sp := []) 200 rfl ?_
      refine am_B.callS (n := 2) (as := [.int (x >>> (nI 17 &&& 31)), .int (nI 12)]) rfl rfl rfl (ct_LW_below 0 _ _ 12 (by decide) (by decide)) rfl rfl (by exact Nat.le_of_ble_eq_true rfl) rfl rfl rfl (fun v h' z => ?_)
      obtain ⟨rfl, k4, hk4, rfl⟩ := z
      refine am_B.if_ne rfl rfl (fun _ => ?_) (fun _ => ?_)
      · exact J403 lv c1 _ f1 f2 f3 (fun i h1 h2 => by rw [upd_n h2]; exact f4 i h1 h2) _
      · refine am_B.run (hp := false) (sp := []) 200 rfl ?_
        rw [pk_mul, nI_add]
        refine am_B.ast rfl xw_g54 (vp_n (show 4 * t + 3 < 40 by omega) rfl) rfl ?_
        rw [nI_clamp (show 4 * t + 3 < 2 ^ 31 by omega), xw_s54]
        exact J403 lv c1 _ f1 f2 f3 (fun i h1 h2 => by rw [upd_n h2, upd_n h2]; exact f4 i h1 h2) _
    have J326 : ∀ lv c1 rws' (m1 m2 : Int32), (lv = -1 ∨ ∃ l, l < 3 ∧ lv = nI l) → c1 ≤ 1 → nI c1 = (if lv = -1 then nI 0 else nI 1) → (∀ i, i ≠ 4 * t + 2 → i ≠ 4 * t + 3 → rws' i = upd (upd rws (4 * t) lv) (4 * t + 1) (nI c1) i) → ∀ l8 : Option Value,
        bB (bPost sc ext) 326 [some (.ref 1), some (.ref 0), some (.int (nI 0)), some (.ref 53), some (.ref 54), some (.ref 56), some (.int (nI t)), some (.int x), l8] [.int m2, .int m1, .int (nI 4 * nI t + nI 2), .ref 54] (bH sc P t gl gco gi go gft glt cnt rws' tok ext) := by
      intro lv c1 rws' m1 m2 f1 f2 f3 f4 l8
      refine am_B.run (hp := false) (sp := []) 200 rfl ?_
      rw [pk_mul, nI_add]
      refine am_B.ast rfl xw_g54 (vp_n (show 4 * t + 2 < 40 by omega) rfl) rfl ?_
      rw [nI_clamp (show 4 * t + 2 < 2 ^ 31 by omega), xw_s54]
      refine am_B.run (hp := false) (sp := []) 200 rfl ?_
      refine am_B.ald rfl xw_g53 (vp_n (show 0 < 2 by decide) rfl) rfl ?_
      rw [nI_clamp (show 0 < 2 ^ 31 by decide), hc0]
      refine am_B.callS (n := 2) (as := [.int (x >>> (nI 11 &&& 31)), .int (nI P)]) rfl rfl rfl (ct_LW_below 0 _ _ P hP0 (by omega)) rfl rfl (by exact Nat.le_of_ble_eq_true rfl) rfl rfl rfl (fun v h' z => ?_)
      obtain ⟨rfl, k4, hk4, rfl⟩ := z
      refine am_B.run (hp := false) (sp := []) 200 rfl ?_
      refine am_B.callS (n := 2) (as := [.int (x >>> (nI 13 &&& 31)), .int (nI 5)]) rfl rfl rfl (ct_LW_below 0 _ _ 5 (by decide) (by decide)) rfl rfl (by exact Nat.le_of_ble_eq_true rfl) rfl rfl rfl (fun v h' z => ?_)
      obtain ⟨rfl, k5, hk5, rfl⟩ := z
      refine am_B.if_ne rfl rfl (fun _ => ?_) (fun _ => ?_)
      · refine am_B.run (hp := false) (sp := [378]) 200 rfl ?_
        exact J378 lv c1 _ _ _ f1 f2 f3 (fun i h1 h2 => by rw [upd_n h1]; exact f4 i h1 h2) _
      · refine am_B.run (hp := false) (sp := []) 200 rfl ?_
        refine am_B.ald rfl xw_g53 (vp_n (show 0 < 2 by decide) rfl) rfl ?_
        rw [nI_clamp (show 0 < 2 ^ 31 by decide), hc0]
        refine am_B.callS (n := 2) (as := [.int (x >>> (nI 15 &&& 31)), .int (nI P)]) rfl rfl rfl (ct_LW_below 0 _ _ P hP0 (by omega)) rfl rfl (by exact Nat.le_of_ble_eq_true rfl) rfl rfl rfl (fun v h' z => ?_)
        obtain ⟨rfl, k6, hk6, rfl⟩ := z
        refine am_B.run (hp := false) (sp := [378]) 200 rfl ?_
        exact J378 lv c1 _ _ _ f1 f2 f3 (fun i h1 h2 => by rw [upd_n h1]; exact f4 i h1 h2) _
    have J276 : ∀ lv c1, (lv = -1 ∨ ∃ l, l < 3 ∧ lv = nI l) → c1 ≤ 1 → nI c1 = (if lv = -1 then nI 0 else nI 1) → ∀ l8 : Option Value,
        bB (bPost sc ext) 276 [some (.ref 1), some (.ref 0), some (.int (nI 0)), some (.ref 53), some (.ref 54), some (.ref 56), some (.int (nI t)), some (.int x), l8] [.int (nI c1), .int (nI 4 * nI t + nI 1), .ref 54] (bH sc P t gl gco gi go gft glt cnt (upd rws (4 * t) lv) tok ext) := by
      intro lv c1 f1 f2 f3 l8
      rw [pk_mul, nI_add]
      refine am_B.ast rfl xw_g54 (vp_n (show 4 * t + 1 < 40 by omega) rfl) rfl ?_
      rw [nI_clamp (show 4 * t + 1 < 2 ^ 31 by omega), xw_s54]
      refine am_B.run (hp := false) (sp := []) 200 rfl ?_
      refine am_B.ald rfl xw_g53 (vp_n (show 0 < 2 by decide) rfl) rfl ?_
      rw [nI_clamp (show 0 < 2 ^ 31 by decide), hc0]
      refine am_B.callS (n := 2) (as := [.int (x >>> (nI 5 &&& 31)), .int (nI P)]) rfl rfl rfl (ct_LW_below 0 _ _ P hP0 (by omega)) rfl rfl (by exact Nat.le_of_ble_eq_true rfl) rfl rfl rfl (fun v h' z => ?_)
      obtain ⟨rfl, k4, hk4, rfl⟩ := z
      refine am_B.run (hp := false) (sp := []) 200 rfl ?_
      refine am_B.callS (n := 2) (as := [.int (x >>> (nI 7 &&& 31)), .int (nI 5)]) rfl rfl rfl (ct_LW_below 0 _ _ 5 (by decide) (by decide)) rfl rfl (by exact Nat.le_of_ble_eq_true rfl) rfl rfl rfl (fun v h' z => ?_)
      obtain ⟨rfl, k5, hk5, rfl⟩ := z
      refine am_B.if_ne rfl rfl (fun _ => ?_) (fun _ => ?_)
      · refine am_B.run (hp := false) (sp := [326]) 200 rfl ?_
        exact J326 lv c1 _ _ _ f1 f2 f3 (fun i h1 h2 => rfl) _
      · refine am_B.run (hp := false) (sp := []) 200 rfl ?_
        refine am_B.ald rfl xw_g53 (vp_n (show 0 < 2 by decide) rfl) rfl ?_
        rw [nI_clamp (show 0 < 2 ^ 31 by decide), hc0]
        refine am_B.callS (n := 2) (as := [.int (x >>> (nI 9 &&& 31)), .int (nI P)]) rfl rfl rfl (ct_LW_below 0 _ _ P hP0 (by omega)) rfl rfl (by exact Nat.le_of_ble_eq_true rfl) rfl rfl rfl (fun v h' z => ?_)
        obtain ⟨rfl, k6, hk6, rfl⟩ := z
        refine am_B.run (hp := false) (sp := [326]) 200 rfl ?_
        exact J326 lv c1 _ _ _ f1 f2 f3 (fun i h1 h2 => rfl) _
    have J252 : ∀ lv, (lv = -1 ∨ ∃ l, l < 3 ∧ lv = nI l) → ∀ l8 : Option Value,
        bB (bPost sc ext) 252 [some (.ref 1), some (.ref 0), some (.int (nI 0)), some (.ref 53), some (.ref 54), some (.ref 56), some (.int (nI t)), some (.int x), l8] [.int lv, .int (nI 4 * nI t), .ref 54] (bH sc P t gl gco gi go gft glt cnt rws tok ext) := by
      intro lv f1 l8
      rw [pk_mul]
      refine am_B.ast rfl xw_g54 (vp_n (show 4 * t < 40 by omega) rfl) rfl ?_
      rw [nI_clamp (show 4 * t < 2 ^ 31 by omega), xw_s54]
      refine am_B.run (hp := false) (sp := []) 200 rfl ?_
      rw [pk_mul]
      refine am_B.ald rfl xw_g54 (vp_n (show 4 * t < 40 by omega) rfl) rfl ?_
      rw [nI_clamp (show 4 * t < 2 ^ 31 by omega), upd_s, ← pk_mul]
      rcases f1 with rfl | ⟨l, hl, rfl⟩
      · refine am_B.if_ge rfl rfl (fun z => absurd z (by decide)) (fun _ => ?_)
        refine am_B.run (hp := false) (sp := [276]) 200 rfl ?_
        exact J276 (-1) 0 (Or.inl rfl) (by decide) rfl _
      · refine am_B.if_ge rfl rfl (fun _ => ?_) (fun z => absurd (nI_le (Nat.zero_le l) (by omega)) z)
        refine am_B.run (hp := false) (sp := [276]) 200 rfl ?_
        exact J276 (nI l) 1 (Or.inr ⟨l, hl, rfl⟩) (by decide) (by rw [if_neg (nI_neg1 (by omega))]) _
    refine am_B.run (hp := false) (sp := []) 200 rfl ?_
    refine am_B.callS (n := 2) (as := [.int x, .int (nI 5)]) rfl rfl rfl (ct_LW_below 0 _ _ 5 (by decide) (by decide)) rfl rfl (by exact Nat.le_of_ble_eq_true rfl) rfl rfl rfl (fun v h' z => ?_)
    obtain ⟨rfl, k5, hk5, rfl⟩ := z
    refine am_B.if_ne rfl rfl (fun _ => ?_) (fun _ => ?_)
    · refine am_B.run (hp := false) (sp := []) 200 rfl ?_
      refine am_B.callS (n := 2) (as := [.int (x >>> (nI 3 &&& 31)), .int (nI 3)]) rfl rfl rfl (ct_LW_below 0 _ _ 3 (by decide) (by decide)) rfl rfl (by exact Nat.le_of_ble_eq_true rfl) rfl rfl rfl (fun v h' z => ?_)
      obtain ⟨rfl, k6, hk6, rfl⟩ := z
      exact J252 _ (Or.inr ⟨k6, hk6, rfl⟩) _
    · refine am_B.run (hp := false) (sp := [252]) 200 rfl ?_
      exact J252 _ (Or.inl rfl) _
