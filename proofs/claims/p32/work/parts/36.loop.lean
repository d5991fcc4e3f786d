/-! THE LAW'S LOOP OVER THE MOVES of one alignment -/
section LOOP
variable {nm : String} {h : am_H} {k many n T P l szk mcv lcv wcv pth P' rc rs : Nat} {tmv : Int32} {ge gl gf rws row g' : Nat → Int32} {trc : Nat → Option Nat} {tl co w ps ms : Nat → Nat} {R : Nat → Nat → Nat}
/-- what the rows of the law tell of a transition -/
def netOK (n T : Nat) (gl gf ge rws gco : Nat → Int32) (co : Nat → Nat) : Prop :=
  (∀ t, t < T → co t ≤ 9 ∧ rws (4 * t) = gl t ∧ rws (4 * t + 1) = nI (co t) ∧ gco t = nI (co t) ∧ (gl t = -1 ∨ ∃ l, l < 3 ∧ gl t = nI l)) ∧ ∀ m, m < n → ∃ e, ge m = nI e ∧ rowOK T n e gf m
set_option maxRecDepth 100000 in
set_option maxHeartbeats 4000000 in
theorem lw_moves {gco : Nat → Int32} (H : HL h k many n T P l szk mcv lcv wcv pth P' tmv ge gf rws trc row g') (hk : k < many) (hm : many ≤ 3) (hn : n ≤ 200) (hP : P' ≤ 3600) (hmc : mcv ≤ P') (hT : T ≤ 6) (hsz : szk ≤ 8) (N : netOK n T gl gf ge rws gco co)
    (htl : ∀ i, i < szk → tl i < 3 ∧ row i = nI (tl i)) (o : rOK n T szk l gl gf lc0 tl w R) (hw : ∀ t, t < T → w t = co t * 4096 + 1) (wk : wkI n T szk gl gf lc0 tl w R mcv g' ps ms) (hmv : mcv = R 0 0 % 4096)
    (K : ∀ C, C = R 0 0 / 4096 → ∀ l12 l13 : Option Value, lB nm 337 [some (.ref 0), some (.ref 1), some (.ref 53), some (.ref 54), some (.ref 55), some (.int (nI many)), some (.int (nI 1)), some (.int (nI k)), some (.int (nI l)), some (.int (nI szk)), some (.int (nI C)), some (.int (nI mcv)), l12, l13] [] h rc rs) :
    ∀ d i, i + d = mcv → ∀ C, R (ps i) (ms i) / 4096 + C = R 0 0 / 4096 → ∀ l12 l13 : Option Value, lB nm 138 [some (.ref 0), some (.ref 1), some (.ref 53), some (.ref 54), some (.ref 55), some (.int (nI many)), some (.int (nI 1)), some (.int (nI k)), some (.int (nI (ms i))), some (.int (nI (ps i))), some (.int (nI C)), some (.int (nI i)), l12, l13] [] h rc rs := by
  have H2 := H
  obtain ⟨h1, h2, h9, h11, h12, h14, h27, h54, h55, h58, hT', hp, htr⟩ := H
  intro d
  induction d with
  | zero =>
    intro i hi C hC l12 l13
    obtain rfl : i = mcv := by omega
    obtain ⟨a1, a2, a3, a4⟩ := wk.2.2.1 i (Nat.le_refl _)
    have r := o.rank hn hsz (R (ps i) (ms i)) (ps i) (ms i) (Nat.le_refl _) a1 a2 a3
    obtain ⟨r1, r2, r3⟩ := r.2 (by omega)
    rw [r1] at hC
    rw [r2, r3]
    refine am_B.run (hp := false) (sp := []) 200 rfl ?_
    refine am_B.callV (ci := 0) (n := 1) (as := [.int (nI k)]) rfl rfl rfl (ct_TA_movesQ h k many n 0 0 (nI 0) (nI l) _ (askW.done hk (by omega) (by omega) h1 h9 h14 h27 hT')) rfl rfl (by exact Nat.le_of_ble_eq_true rfl) rfl h1 rfl rfl (fun v h' z => ?_)
    obtain ⟨rfl, sz', tm', al', lf', wf', mf', p', hT2, rfl⟩ := z
    have e := hT'.symm.trans hT2
    simp only [Option.some.injEq, Sum.inr.injEq, Prod.mk.injEq, List.cons.injEq, Value.int.injEq, true_and, and_true] at e
    have e1 : mf' = nI i := e.2.2.2.2.2.1.symm
    subst e1
    refine am_B.icmp_ge rfl rfl (fun _ => K C (by omega) _ _) (fun z => absurd (nI_le (Nat.le_refl _) (by omega)) z)
  | succ d ih =>
    intro i hi C hC l12 l13
    obtain ⟨a1, a2, a3, a4⟩ := wk.2.2.1 i (by omega)
    obtain ⟨x, c, hx, q⟩ := wk.2.2.2 i (by omega)
    have st := o.step hn hsz a1 a2 a3 q.step
    rcases q with ⟨e1, e2, t, b1, b2, b3, b4, b5⟩ | ⟨e1, e2, e3, b1, b2, b3⟩ | ⟨e1, t, b1, b2, b3, b4, b5⟩
    · obtain ⟨c1, c2⟩ := htl _ b1
      have ht : t < T := b2.1
      obtain ⟨n1, n2, n3, n4, n5⟩ := N.1 t b2.1
      obtain ⟨e, m1, m2⟩ := N.2 _ a2
      subst b5
      refine lw_pre H2 hk hm hn hP hmc (i := i) (by omega) hx (by decide) (by omega) (by omega) (by omega) ?_
      refine lw_lab H2 hk hm hn hP hmc (i := i) (by omega) hx (by decide) (by omega) (by omega) (by omega) b1 hsz c2 ?_
      rw [nI_prd]
      refine am_B.run (hp := false) (sp := []) 200 rfl ?_
      refine am_B.if_ne rfl rfl (fun z => absurd rfl z) (fun _ => ?_)
      refine am_B.run (hp := false) (sp := []) 200 rfl ?_
      rw [pk_mul]
      refine am_B.ald rfl h54 (vp_n (show 4 * t < 40 by omega) rfl) rfl ?_
      rw [nI_clamp (show 4 * t < 2 ^ 31 by omega), n2, b3]
      refine am_B.run (hp := false) (sp := []) 200 rfl ?_
      refine am_B.ald rfl h55 (vp_n (show k < 8 by omega) rfl) (tr_get (by omega) htr) ?_
      refine am_B.run (hp := false) (sp := []) 200 rfl ?_
      refine am_B.ald rfl h58 (vp_nI b1 (by omega)) rfl ?_
      rw [nI_clamp (show ps i < 2 ^ 31 by omega), c2]
      refine am_B.icmp_eq rfl rfl (fun _ => ?_) (fun z => absurd rfl z)
      refine am_B.run (hp := false) (sp := []) 200 rfl ?_
      refine am_B.if_ne rfl rfl (fun z => absurd rfl z) (fun _ => ?_)
      refine am_B.run (hp := false) (sp := []) 200 rfl ?_
      refine am_B.icmp_ge rfl rfl (fun z => absurd z (by decide)) (fun _ => ?_)
      refine am_B.run (hp := false) (sp := [296]) 200 rfl ?_
      rw [nI_add, nI_add, ← e1]
      refine lw_fire H2 hm hn hT (by decide) (by decide) a2 b2.1 m1 m2 b2.2.1 b2.2.2 (fun l12 l13 => ?_)
      refine am_B.run (hp := false) (sp := [138]) 200 rfl ?_
      rw [nI_add]
      exact ih (i + 1) (by omega) (C + 0) (by omega) _ _
    · obtain ⟨c1, c2⟩ := htl _ b1
      have hl1 : lc0 (tl (ps i)) = 1 := if_pos (by omega)
      rw [hl1] at e3
      subst b3
      refine lw_pre H2 hk hm hn hP hmc (i := i) (by omega) hx (by decide) (by omega) (by omega) (by omega) ?_
      refine lw_lab H2 hk hm hn hP hmc (i := i) (by omega) hx (by decide) (by omega) (by omega) (by omega) b1 hsz c2 ?_
      refine am_B.run (hp := false) (sp := []) 200 rfl ?_
      refine am_B.if_ne rfl rfl (fun _ => ?_) (fun z => absurd z (by decide))
      refine am_B.run (hp := false) (sp := []) 200 rfl ?_
      refine am_B.if_ne rfl rfl (fun _ => ?_) (fun z => absurd z (by decide))
      refine am_B.run (hp := false) (sp := []) 200 rfl ?_
      refine am_B.icmp_ne rfl rfl (fun z => absurd rfl z) (fun _ => ?_)
      refine am_B.run (hp := false) (sp := []) 200 rfl ?_
      refine am_B.icmp_ge rfl rfl (fun z => absurd z (by decide)) (fun _ => ?_)
      refine am_B.run (hp := false) (sp := []) 200 rfl ?_
      refine am_B.icmp_ne rfl rfl (fun z => absurd rfl z) (fun _ => ?_)
      refine am_B.run (hp := false) (sp := [138]) 200 rfl ?_
      rw [nI_add, nI_add, nI_add, ← e1, ← e2]
      exact ih (i + 1) (by omega) (C + 1) (by omega) _ _
    · have ht : t < T := b1.1
      obtain ⟨n1, n2, n3, n4, n5⟩ := N.1 t b1.1
      obtain ⟨e, m1, m2⟩ := N.2 _ a2
      have hc : c = co t := by
        rw [hw t b1.1] at b2
        omega
      subst b5
      refine lw_pre H2 hk hm hn hP hmc (i := i) (by omega) hx (by decide) (by omega) (by omega) (by omega) ?_
      rw [nI_prd]
      refine am_B.run (hp := false) (sp := []) 200 rfl ?_
      refine am_B.icmp_ge rfl rfl (fun _ => ?_) (fun z => absurd (by decide) z)
      refine am_B.run (hp := false) (sp := []) 200 rfl ?_
      refine am_B.if_ne rfl rfl (fun _ => ?_) (fun z => absurd z (by decide))
      refine am_B.run (hp := false) (sp := []) 200 rfl ?_
      refine am_B.if_ne rfl rfl (fun _ => ?_) (fun z => absurd z (by decide))
      refine am_B.run (hp := false) (sp := []) 200 rfl ?_
      refine am_B.icmp_ne rfl rfl (fun _ => ?_) (fun z => absurd z (by decide))
      refine am_B.run (hp := false) (sp := []) 200 rfl ?_
      rw [pk_mul, nI_add]
      refine am_B.ald rfl h54 (vp_n (show 4 * t + 1 < 40 by omega) rfl) rfl ?_
      rw [nI_clamp (show 4 * t + 1 < 2 ^ 31 by omega), n3]
      refine am_B.run (hp := false) (sp := []) 200 rfl ?_
      refine am_B.icmp_ge rfl rfl (fun _ => ?_) (fun z => absurd (by decide) z)
      refine am_B.run (hp := false) (sp := [296]) 200 rfl ?_
      rw [nI_add, nI_add, Nat.add_zero, ← e1]
      refine lw_fire H2 hm hn hT (by decide) (by decide) a2 b1.1 m1 m2 b1.2.1 b1.2.2 (fun l12 l13 => ?_)
      refine am_B.run (hp := false) (sp := [138]) 200 rfl ?_
      rw [nI_add]
      exact ih (i + 1) (by omega) (C + co t) (by omega) _ _
end LOOP
