/-! WHAT THE LAW ASKS OF AN ALIGNMENT, as numbers -/
/-- dearer ways: weights up to M against steps -/
theorem fix_steps {n T l M : Nat} {gf : Nat → Int32} {w D r : Nat → Nat} (hD : fixOK n T gf w (endB l) D) (hr : fixOK n T gf (fun _ => 1) (endB l) r) (hw : ∀ t, t < T → w t ≤ M) : ∀ v m, r m ≤ v → m < n → r m < 1073741824 → D m ≤ M * r m := by
  intro v
  induction v with
  | zero =>
    intro m h1 h2 h3
    rcases hr.2.2.1 m h2 with q | ⟨t, k, q1, q2⟩
    · have hb := hD.2.1 m h2
      unfold endB at q hb
      by_cases z : m = l
      · rw [if_pos z] at hb
        omega
      · rw [if_neg z] at q
        omega
    · have q3 : r k + 1 ≤ r m := q2
      omega
  | succ v ih =>
    intro m h1 h2 h3
    rcases hr.2.2.1 m h2 with q | ⟨t, k, q1, q2⟩
    · have hb := hD.2.1 m h2
      unfold endB at q hb
      by_cases z : m = l
      · rw [if_pos z] at hb
        omega
      · rw [if_neg z] at q
        omega
    · have q2 : r k + 1 ≤ r m := q2
      have a1 := ih k (by omega) q1.2.1 (by omega)
      have a2 := hD.1 m h2 t k q1
      have a3 := hw t q1.1
      have a4 : M * r k + M ≤ M * r m := by
        have : M * (r k + 1) ≤ M * r m := Nat.mul_le_mul_left M q2
        rw [Nat.mul_add, Nat.mul_one] at this
        exact this
      omega
/-- the first marking is few steps from the end -/
theorem steps_near {n T l : Nat} {gf : Nat → Int32} {r : Nat → Nat} (hr : fixOK n T gf (fun _ => 1) (endB l) r) (hre : reachO n T gf) (hl : l < n) : r 0 ≤ l := by
  have h1 := reach_le hre hr.1 (M := 1) (fun _ _ => Nat.le_refl _) l l (Nat.le_refl _) hl
  have h2 := hr.2.1 l hl
  unfold endB at h2
  rw [if_pos rfl] at h2
  omega
/-- the row in which a label is left out costs no more than that label -/
theorem rOK.skip {n T sz l : Nat} {gl gf : Nat → Int32} {lc tl w : Nat → Nat} {R : Nat → Nat → Nat} (o : rOK n T sz l gl gf lc tl w R) (hn0 : 0 < n) (hlc : ∀ i, i < sz → lc (tl i) = 1) : ∀ d i, i + d = sz → R i 0 ≤ R sz 0 + 4097 * d := by
  intro d
  induction d with
  | zero => intro i hi; obtain rfl : i = sz := by omega
            omega
  | succ d ih =>
    intro i hi
    obtain ⟨b, h1, h2⟩ := o.row i (by omega)
    have a1 := h2.2.1 0 hn0
    have a2 := (h1 0 hn0).2.1
    have a3 := ih (i + 1) (by omega)
    have a4 := hlc i (by omega)
    rw [a4] at a2
    omega
/-- from the alignment's numbers to what is asked of cost and worst -/
theorem al_worst {n T sz l : Nat} {gl gf : Nat → Int32} {lc tl w : Nat → Nat} {R : Nat → Nat → Nat} (o : rOK n T sz l gl gf lc tl w R) (hn : n ≤ 200) (hn0 : 0 < n) (hs : sz ≤ 8) (hlc : ∀ i, i < sz → lc (tl i) = 1) (hf : R sz 0 < 1073741824) : R 0 0 / 4096 ≤ R sz 0 / 4096 + sz := by
  have h1 := o.skip hn0 hlc sz 0 (by omega)
  have h2 := o.small hn hs (Nat.le_refl sz) hn0 hf
  omega
theorem sm_ones {f : Nat → Nat} : ∀ {n : Nat}, (∀ i, i < n → f i = 1) → sm f n = n
  | 0, _ => rfl
  | n + 1, h => by
    show sm f n + f n = n + 1
    rw [sm_ones fun i hi => h i (by omega), h n (by omega)]
theorem al_away {n T l sz : Nat} {gl gf : Nat → Int32} {lc tl w r : Nat → Nat} {R : Nat → Nat → Nat} (o : rOK n T sz l gl gf lc tl w R) (hn : n ≤ 200) (hl : l < n) (hre : reachO n T gf) (hr : fixOK n T gf (fun _ => 1) (endB l) r) : r 0 < 200 ∧ R sz 0 / 4096 ≤ 9 * r 0 := by
  have h1 := steps_near hr hre hl
  have h2 := fix_steps o.fin hr (M := 36865) (fun t ht => by
    obtain ⟨c, c1, c2⟩ := o.wgt t ht
    omega) (r 0) 0 (Nat.le_refl _) (by omega) (by omega)
  omega
/-- a way played: what it comes to, for whichever labels come behind it -/
def played (n T l : Nat) (gl gf : Nat → Int32) (lc co : Nat → Nat) (gb : Nat → Int32) (pos at_ sil st : Nat) : Prop :=
  ∀ sz tl w R, rOK n T sz l gl gf lc tl w R → (∀ t, t < T → w t = co t * 4096 + 1) → pos ≤ sz → (∀ i, i < pos → gb i = nI (tl i)) → R 0 0 ≤ R pos at_ + sil * 4096 + st
theorem played.silent {n T l : Nat} {gl gf : Nat → Int32} {lc co : Nat → Nat} {gb : Nat → Int32} {pos at_ sil st t k : Nat} (h : played n T l gl gf lc co gb pos at_ sil st) (hm : at_ < n) (he : Ed n T gf at_ t k) : played n T l gl gf lc co gb pos k (sil + co t) (st + 1) := by
  intro sz tl w R o hw hp hg
  have h1 := h sz tl w R o hw hp hg
  have h2 : R pos at_ ≤ R pos k + w t := by
    by_cases z : pos = sz
    · subst z
      exact o.fin.1 at_ hm t k he
    · obtain ⟨b, -, q⟩ := o.row pos (by omega)
      exact q.1 at_ hm t k he
  rw [hw t he.1] at h2
  have : (sil + co t) * 4096 = sil * 4096 + co t * 4096 := Nat.add_mul _ _ _
  omega
theorem played.label {n T l : Nat} {gl gf : Nat → Int32} {lc co : Nat → Nat} {gb : Nat → Int32} {pos at_ sil st t k : Nat} (h : played n T l gl gf lc co gb pos at_ sil st) (hm : at_ < n) (he : Ed n T gf at_ t k) : played n T l gl gf lc co (upd gb pos (gl t)) (pos + 1) k sil (st + 1) := by
  intro sz tl w R o hw hp hg
  have h1 := h sz tl w R o hw (by omega) (fun i hi => by
    have := hg i (by omega)
    rwa [upd_n (by omega)] at this)
  have h2 : gl t = nI (tl pos) := by
    have := hg pos (by omega)
    rwa [upd_s] at this
  obtain ⟨b, q1, q2⟩ := o.row pos (by omega)
  have h3 := (q1 at_ hm).2.2.1 t k he.1 he h2
  have h4 := q2.2.1 at_ hm
  omega
theorem played.cost {n T l sz : Nat} {gl gf : Nat → Int32} {lc co tl w : Nat → Nat} {gb : Nat → Int32} {R : Nat → Nat → Nat} {sil st : Nat} (h : played n T l gl gf lc co gb sz l sil st) (o : rOK n T sz l gl gf lc tl w R) (hw : ∀ t, t < T → w t = co t * 4096 + 1) (hg : ∀ i, i < sz → gb i = nI (tl i)) (hl : l < n) (hst : st < 4096) : R 0 0 / 4096 ≤ sil := by
  have h1 := h sz tl w R o hw (Nat.le_refl _) hg
  have h2 := o.fin.2.1 l hl
  unfold endB at h2
  rw [if_pos rfl] at h2
  omega
/-- one move of an alignment, as the law reads it -/
theorem mv_q {k t1 l1 m : Nat} (hk : k < 4) (ht : t1 < 16) (hl : l1 < 8) (hm : m < 200) : mvQ 0 (nI (mvN k t1 l1 m)) = nI k ∧ mvQ 1 (nI (mvN k t1 l1 m)) = nI t1 - nI 1 ∧ mvQ 2 (nI (mvN k t1 l1 m)) = nI l1 - nI 1 ∧ mvQ 3 (nI (mvN k t1 l1 m)) = nI m := by
  refine ⟨?_, ?_, ?_, ?_⟩
  · show nI (mvN k t1 l1 m) &&& nI 3 = nI k
    exact mv_kind hk
  · show ((nI (mvN k t1 l1 m) >>> (nI 2 &&& 31)) &&& nI 15) - nI 1 = _
    rw [mv_tr hk ht hl hm]
  · show ((nI (mvN k t1 l1 m) >>> (nI 6 &&& 31)) &&& nI 7) - nI 1 = _
    rw [mv_lb hk ht hl hm]
  · show nI (mvN k t1 l1 m) >>> (nI 9 &&& 31) = _
    exact mv_mk hk ht hl hm
/-- the bit of a set -/
theorem bit_q {e t : Nat} (he : e < 2 ^ 10) (ht : t < 10) : (nI e >>> (nI t &&& 31)) &&& nI 1 = nI (if e.testBit t then 1 else 0) := by
  have h31 : e < 2 ^ 31 := Nat.lt_trans he (by decide)
  rw [nI_shrp h31 ht, nI_and]
  congr 1
  rw [Nat.and_one_is_mod, Nat.testBit_eq_decide_div_mod_eq]
  by_cases q : e / 2 ^ t % 2 = 1
  · rw [if_pos (by simp [q])]
    exact q
  · rw [if_neg (by simp [q])]
    omega
