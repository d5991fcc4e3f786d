/-! PACKING a move, and the best move -/
theorem nI_shl2 (a : Nat) : nI a <<< (nI 2 &&& 31) = nI (a * 4) := by
  apply Int32.toBitVec_inj.1
  show BitVec.ofNat 32 a <<< (2 : Nat) = BitVec.ofNat 32 (a * 4)
  apply BitVec.eq_of_toNat_eq
  simp only [BitVec.toNat_shiftLeft, BitVec.toNat_ofNat, Nat.shiftLeft_eq]
  omega
theorem nI_shl6 (a : Nat) : nI a <<< (nI 6 &&& 31) = nI (a * 64) := by
  apply Int32.toBitVec_inj.1
  show BitVec.ofNat 32 a <<< (6 : Nat) = BitVec.ofNat 32 (a * 64)
  apply BitVec.eq_of_toNat_eq
  simp only [BitVec.toNat_shiftLeft, BitVec.toNat_ofNat, Nat.shiftLeft_eq]
  omega
theorem nI_shl9 (a : Nat) : nI a <<< (nI 9 &&& 31) = nI (a * 512) := by
  apply Int32.toBitVec_inj.1
  show BitVec.ofNat 32 a <<< (9 : Nat) = BitVec.ofNat 32 (a * 512)
  apply BitVec.eq_of_toNat_eq
  simp only [BitVec.toNat_shiftLeft, BitVec.toNat_ofNat, Nat.shiftLeft_eq]
  omega
theorem nI_and (a b : Nat) : nI a &&& nI b = nI (a &&& b) := by
  apply Int32.toBitVec_inj.1
  show BitVec.ofNat 32 a &&& BitVec.ofNat 32 b = BitVec.ofNat 32 (a &&& b)
  apply BitVec.eq_of_getLsbD_eq
  intro i hi
  simp [hi]
theorem bv_shr (a s : Nat) (ha : a < 2 ^ 31) : (BitVec.ofNat 32 a).sshiftRight s = BitVec.ofNat 32 (a / 2 ^ s) := by
  have hm : (BitVec.ofNat 32 a).msb = false := by
    rw [BitVec.msb_eq_false_iff_two_mul_lt, BitVec.toNat_ofNat]
    omega
  rw [BitVec.sshiftRight_eq_of_msb_false hm]
  apply BitVec.eq_of_toNat_eq
  rw [BitVec.toNat_ushiftRight, BitVec.toNat_ofNat, BitVec.toNat_ofNat, Nat.shiftRight_eq_div_pow, Nat.mod_eq_of_lt (by omega), Nat.mod_eq_of_lt]
  have := Nat.div_le_self a (2 ^ s)
  omega
theorem nI_shr2 {a : Nat} (ha : a < 2 ^ 31) : nI a >>> (nI 2 &&& 31) = nI (a / 4) := by
  apply Int32.toBitVec_inj.1
  exact bv_shr a 2 ha
theorem nI_shr6 {a : Nat} (ha : a < 2 ^ 31) : nI a >>> (nI 6 &&& 31) = nI (a / 64) := by
  apply Int32.toBitVec_inj.1
  exact bv_shr a 6 ha
theorem nI_shr9 {a : Nat} (ha : a < 2 ^ 31) : nI a >>> (nI 9 &&& 31) = nI (a / 512) := by
  apply Int32.toBitVec_inj.1
  exact bv_shr a 9 ha
/-- a move: its kind, one more than its transition, one more than its label, its marking -/
def mvN (k t1 l1 m : Nat) : Nat := k + t1 * 4 + l1 * 64 + m * 512
theorem pack_eq {k t1 l1 m : Nat} (hk : k < 4) (ht : t1 < 16) (hl : l1 < 8) : ((nI k ||| (nI t1 <<< (nI 2 &&& 31))) ||| (nI l1 <<< (nI 6 &&& 31))) ||| (nI m <<< (nI 9 &&& 31)) = nI (mvN k t1 l1 m) := by
  rw [nI_shl2, nI_shl6, nI_shl9, fa_or, fa_or, fa_or]
  have e1 : k ||| t1 * 4 = k + t1 * 4 := by
    rw [Nat.or_comm, show t1 * 4 = t1 <<< 2 by rw [Nat.shiftLeft_eq], ← Nat.shiftLeft_add_eq_or_of_lt (show k < 2 ^ 2 by omega)]
    omega
  have e2 : (k + t1 * 4) ||| l1 * 64 = k + t1 * 4 + l1 * 64 := by
    rw [Nat.or_comm, show l1 * 64 = l1 <<< 6 by rw [Nat.shiftLeft_eq], ← Nat.shiftLeft_add_eq_or_of_lt (show k + t1 * 4 < 2 ^ 6 by omega)]
    omega
  have e3 : (k + t1 * 4 + l1 * 64) ||| m * 512 = k + t1 * 4 + l1 * 64 + m * 512 := by
    rw [Nat.or_comm, show m * 512 = m <<< 9 by rw [Nat.shiftLeft_eq], ← Nat.shiftLeft_add_eq_or_of_lt (show k + t1 * 4 + l1 * 64 < 2 ^ 9 by omega)]
    omega
  rw [e1, e2, e3]
  rfl
theorem mv_kind {k t1 l1 m : Nat} (hk : k < 4) : nI (mvN k t1 l1 m) &&& nI 3 = nI k := by
  rw [nI_and, show (3 : Nat) = 2 ^ 2 - 1 from rfl, Nat.and_two_pow_sub_one_eq_mod]
  unfold mvN
  congr 1
  omega
theorem mv_tr {k t1 l1 m : Nat} (hk : k < 4) (ht : t1 < 16) (hl : l1 < 8) (hm : m < 200) : (nI (mvN k t1 l1 m) >>> (nI 2 &&& 31)) &&& nI 15 = nI t1 := by
  rw [nI_shr2 (by unfold mvN; omega), nI_and, show (15 : Nat) = 2 ^ 4 - 1 from rfl, Nat.and_two_pow_sub_one_eq_mod]
  unfold mvN
  congr 1
  omega
theorem mv_lb {k t1 l1 m : Nat} (hk : k < 4) (ht : t1 < 16) (hl : l1 < 8) (hm : m < 200) : (nI (mvN k t1 l1 m) >>> (nI 6 &&& 31)) &&& nI 7 = nI l1 := by
  rw [nI_shr6 (by unfold mvN; omega), nI_and, show (7 : Nat) = 2 ^ 3 - 1 from rfl, Nat.and_two_pow_sub_one_eq_mod]
  unfold mvN
  congr 1
  omega
theorem mv_mk {k t1 l1 m : Nat} (hk : k < 4) (ht : t1 < 16) (hl : l1 < 8) (hm : m < 200) : nI (mvN k t1 l1 m) >>> (nI 9 &&& 31) = nI m := by
  rw [nI_shr9 (by unfold mvN; omega)]
  unfold mvN
  congr 1
  omega
theorem m1_add : (-1 : Int32) + nI 1 = nI 0 := by decide
theorem z_sub : nI 0 - nI 1 = -1 := by decide
set_option maxRecDepth 100000 in
set_option maxHeartbeats 4000000 in
theorem ct_PF_bestModel (h : am_H) (rp n T m : Nat) (pc ex la : Int32) (gl gf : Nat → Int32) (lc w r : Nat → Nat) (hn : n ≤ 200) (hT : T ≤ 10) (hm : m < n) (hwf : wfF n T gf) (hw : ∀ t, t < T → w t ≤ 36865) (hr : ∀ i, i < n → r i ≤ 1073741824) (W : pfW h n T pc ex la gl gf lc) (h15 : h[15]? = some (ia 10 fun t => nI (w t)))
    (hR : h[rp]? = some (ia 200 fun i => nI (r i))) (hx : ∃ t k, Ed n T gf m t k ∧ r k + w t = r m) : am_Ct am_G0 m_PF_bestModelTransition 1 0 0 [.ref 14, .ref rp, .int (nI m)] h (fun v h' => h' = h ∧ ∃ t k, Ed n T gf m t k ∧ r k + w t = r m ∧ v = some (.int (nI t))) := by
  obtain ⟨h2, h3, h9, h12, h13, h14, h16⟩ := W
  have hm2 : m < 200 := by omega
  refine am_Ct.of (E := E_PF_bestModelTransition) e_PF_bestModelTransition (by decide) (Nat.le_of_ble_eq_true rfl) ?_
  have L : ∀ (d t : Nat) (l4 : Option Value), t + d = T → (∀ t' k, t' < t → Ed n T gf m t' k → r k + w t' ≠ r m) → am_B E_PF_bestModelTransition (am_rm 1 0 0) (am_ZM E_PF_bestModelTransition 0 0 (fun v h' => h' = h ∧ ∃ t k, Ed n T gf m t k ∧ r k + w t = r m ∧ v = some (.int (nI t)))) 2 [some (.ref 14), some (.ref rp), some (.int (nI m)), some (.int (nI t)), l4] [] h 0 0 := by
    intro d
    induction d with
    | zero =>
      intro t l4 ht I
      obtain ⟨t', k, q1, q2⟩ := hx
      exact absurd q2 (I t' k (by have := q1.1; omega) q1)
    | succ d ih =>
      intro t l4 ht I
      have htT : t < 10 := by omega
      have J49 : ∀ (x : Int32), (∀ k, Ed n T gf m t k → r k + w t ≠ r m) → am_B E_PF_bestModelTransition (am_rm 1 0 0) (am_ZM E_PF_bestModelTransition 0 0 (fun v h' => h' = h ∧ ∃ t k, Ed n T gf m t k ∧ r k + w t = r m ∧ v = some (.int (nI t)))) 49 [some (.ref 14), some (.ref rp), some (.int (nI m)), some (.int (nI t)), some (.int x)] [] h 0 0 := by
        intro x hno
        refine am_B.run (hp := false) (sp := [2]) 200 rfl ?_
        rw [nI_add]
        refine ih (t + 1) _ (by omega) (fun t' k q1 q2 => ?_)
        by_cases z : t' = t
        · subst z
          exact hno k q2
        · exact I t' k (by omega) q2
      refine am_B.run (hp := false) (sp := []) 200 rfl ?_
      refine am_B.get rfl rfl rfl (by first | assumption | exact gs_s (by first | assumption | exact gs_s (by first | assumption | exact gs_s (by assumption) | (refine gs_n (by decide) ?_; assumption)) | (refine gs_n (by decide) ?_; first | assumption | exact gs_s (by assumption) | (refine gs_n (by decide) ?_; assumption))) | (refine gs_n (by decide) ?_; first | assumption | exact gs_s (by first | assumption | exact gs_s (by assumption) | (refine gs_n (by decide) ?_; assumption)) | (refine gs_n (by decide) ?_; first | assumption | exact gs_s (by assumption) | (refine gs_n (by decide) ?_; assumption)))) rfl rfl ?_
      refine am_B.run (hp := false) (sp := []) 200 rfl ?_
      refine am_B.get rfl rfl rfl (by first | assumption | exact gs_s (by first | assumption | exact gs_s (by first | assumption | exact gs_s (by assumption) | (refine gs_n (by decide) ?_; assumption)) | (refine gs_n (by decide) ?_; first | assumption | exact gs_s (by assumption) | (refine gs_n (by decide) ?_; assumption))) | (refine gs_n (by decide) ?_; first | assumption | exact gs_s (by first | assumption | exact gs_s (by assumption) | (refine gs_n (by decide) ?_; assumption)) | (refine gs_n (by decide) ?_; first | assumption | exact gs_s (by assumption) | (refine gs_n (by decide) ?_; assumption)))) rfl rfl ?_
      refine am_B.run (hp := false) (sp := []) 200 rfl ?_
      refine am_B.icmp_ge rfl rfl (fun z => absurd z (nI_ge (by omega) (by omega))) (fun _ => ?_)
      refine am_B.run (hp := false) (sp := []) 200 rfl ?_
      refine am_B.get rfl rfl rfl (by first | assumption | exact gs_s (by first | assumption | exact gs_s (by first | assumption | exact gs_s (by assumption) | (refine gs_n (by decide) ?_; assumption)) | (refine gs_n (by decide) ?_; first | assumption | exact gs_s (by assumption) | (refine gs_n (by decide) ?_; assumption))) | (refine gs_n (by decide) ?_; first | assumption | exact gs_s (by first | assumption | exact gs_s (by assumption) | (refine gs_n (by decide) ?_; assumption)) | (refine gs_n (by decide) ?_; first | assumption | exact gs_s (by assumption) | (refine gs_n (by decide) ?_; assumption)))) rfl rfl ?_
      refine am_B.run (hp := false) (sp := []) 200 rfl ?_
      refine am_B.callV (ci := 2) (n := 2) (as := [.int (nI m), .int (nI t)]) rfl rfl rfl (ct_MG_follower 0 _ m t ex (nI n) la gf hm2 htT h9 h12) rfl rfl (by exact Nat.le_of_ble_eq_true rfl) rfl h9 rfl rfl (fun v h' q => ?_)
      obtain ⟨rfl, rfl⟩ := q
      refine am_B.run (hp := false) (sp := []) 200 rfl ?_
      refine am_B.icmp_eq rfl rfl (fun z2 => ?_) (fun z2 => ?_)
      · exact J49 _ fun k he => absurd (he.2.2.symm.trans z2) (nI_neg1 (by have := he.2.1; omega))
      · obtain ⟨k, hk, hgk⟩ := (hwf m hm t (by omega)).resolve_left z2
        have he : Ed n T gf m t k := ⟨by omega, hk, hgk⟩
        have hk2 : k < 200 := by omega
        have b1 := hr k hk
        have b2 := hr m hm
        have b3 := hw t (by omega)
        refine am_B.run (hp := false) (sp := []) 200 rfl ?_
        rw [hgk]
        refine am_B.ald rfl hR (vp_n hk2 rfl) rfl ?_
        rw [nI_clamp (show k < 2 ^ 31 by omega)]
        refine am_B.run (hp := false) (sp := []) 200 rfl ?_
        refine am_B.get rfl rfl rfl (by first | assumption | exact gs_s (by first | assumption | exact gs_s (by first | assumption | exact gs_s (by assumption) | (refine gs_n (by decide) ?_; assumption)) | (refine gs_n (by decide) ?_; first | assumption | exact gs_s (by assumption) | (refine gs_n (by decide) ?_; assumption))) | (refine gs_n (by decide) ?_; first | assumption | exact gs_s (by first | assumption | exact gs_s (by assumption) | (refine gs_n (by decide) ?_; assumption)) | (refine gs_n (by decide) ?_; first | assumption | exact gs_s (by assumption) | (refine gs_n (by decide) ?_; assumption)))) rfl rfl ?_
        refine am_B.run (hp := false) (sp := []) 200 rfl ?_
        refine am_B.ald rfl h15 (vp_n htT rfl) rfl ?_
        rw [nI_clamp (show t < 2 ^ 31 by omega)]
        refine am_B.run (hp := false) (sp := []) 200 rfl ?_
        refine am_B.ald rfl hR (vp_n hm2 rfl) rfl ?_
        rw [nI_clamp (show m < 2 ^ 31 by omega), nI_add]
        refine am_B.icmp_ne rfl rfl (fun z => ?_) (fun z => ?_)
        · have e := J49 (nI k) fun k' he' q => z ?_
          · exact e
          · have e2 : k' = k := nI_inj (by have := he'.2.1; omega) (by omega) (he'.2.2.symm.trans hgk)
            subst e2
            exact congrArg nI q
        · refine am_B.run (hp := false) (sp := []) 200 rfl ?_
          exact am_B.iret rfl rfl rfl ⟨rfl, t, k, he, nI_inj (by omega) (by omega) z, rfl⟩
  refine am_B.run (hp := false) (sp := [2]) 200 rfl ?_
  exact L T 0 none (by omega) (fun t' k q => absurd q (by omega))
