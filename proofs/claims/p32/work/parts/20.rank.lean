/-! HOW MANY MOVES: fewer than 4096 -/
/-- the rows, fitted together -/
def rOK (n T sz l : Nat) (gl gf : Nat → Int32) (lc tl w : Nat → Nat) (R : Nat → Nat → Nat) : Prop :=
  fixOK n T gf w (endB l) (R sz) ∧ (∀ i, i < sz → rowE n T gl gf w (tl i) (lc (tl i) * 4096 + 1) (R (i + 1)) (R i)) ∧ (∀ t, t < T → ∃ c, c ≤ 9 ∧ w t = c * 4096 + 1) ∧ ∀ i, i < sz → lc (tl i) ≤ 9
theorem rOK.fin {n T sz l : Nat} {gl gf : Nat → Int32} {lc tl w : Nat → Nat} {R : Nat → Nat → Nat} (h : rOK n T sz l gl gf lc tl w R) : fixOK n T gf w (endB l) (R sz) := h.1
theorem rOK.row {n T sz l : Nat} {gl gf : Nat → Int32} {lc tl w : Nat → Nat} {R : Nat → Nat → Nat} (h : rOK n T sz l gl gf lc tl w R) : ∀ i, i < sz → rowE n T gl gf w (tl i) (lc (tl i) * 4096 + 1) (R (i + 1)) (R i) := h.2.1
theorem rOK.wgt {n T sz l : Nat} {gl gf : Nat → Int32} {lc tl w : Nat → Nat} {R : Nat → Nat → Nat} (h : rOK n T sz l gl gf lc tl w R) : ∀ t, t < T → ∃ c, c ≤ 9 ∧ w t = c * 4096 + 1 := h.2.2.1
/-- from one place to the next -/
def rStep (n T sz : Nat) (gl gf : Nat → Int32) (lc tl w : Nat → Nat) (R : Nat → Nat → Nat) (pos m pos' m' c : Nat) : Prop :=
  (pos' = pos + 1 ∧ c = 0 ∧ ∃ t, pos < sz ∧ Ed n T gf m t m' ∧ gl t = nI (tl pos) ∧ R (pos + 1) m' + 1 = R pos m) ∨
  (pos' = pos + 1 ∧ m' = m ∧ c = lc (tl pos) ∧ pos < sz ∧ R (pos + 1) m + (lc (tl pos) * 4096 + 1) = R pos m) ∨
  (pos' = pos ∧ ∃ t, Ed n T gf m t m' ∧ w t = c * 4096 + 1 ∧ c ≤ 9 ∧ R pos m' + w t = R pos m)
theorem rOK.far {n T sz l : Nat} {gl gf : Nat → Int32} {lc tl w : Nat → Nat} {R : Nat → Nat → Nat} (h : rOK n T sz l gl gf lc tl w R) {i : Nat} (hi : i ≤ sz) : ∀ m, m < n → R i m ≤ 1073741824 := by
  intro m hm
  by_cases z : i = sz
  · subst z
    have := h.fin.2.1 m hm
    unfold endB at this
    split at this <;> omega
  · exact (h.row i (by omega)).far m hm
theorem rOK.next {n T sz l : Nat} {gl gf : Nat → Int32} {lc tl w : Nat → Nat} {R : Nat → Nat → Nat} (h : rOK n T sz l gl gf lc tl w R) {pos m : Nat} (hp : pos ≤ sz) (hm : m < n) (hf : R pos m < 1073741824) :
    (R pos m = 0 ∧ pos = sz ∧ m = l) ∨ ∃ pos' m' c, rStep n T sz gl gf lc tl w R pos m pos' m' c := by
  by_cases z : pos = sz
  · subst z
    rcases h.fin.2.2.1 m hm with q1 | ⟨t, k, q1, q2⟩
    · unfold endB at q1
      split at q1
      · rename_i e
        exact Or.inl ⟨q1, rfl, e⟩
      · omega
    · obtain ⟨c, c1, c2⟩ := h.wgt t q1.1
      have := h.fin.1 m hm t k q1
      exact Or.inr ⟨_, k, c, Or.inr (Or.inr ⟨rfl, t, q1, c2, c1, by omega⟩)⟩
  · have hlt : pos < sz := by omega
    obtain ⟨b, hb1, hb2⟩ := h.row pos hlt
    rcases hb2.2.2.1 m hm with q1 | ⟨t, k, q1, q2⟩
    · rcases (hb1 m hm).2.2.2 with q2 | q2 | ⟨t, k, q2, q3, q4⟩
      · omega
      · exact Or.inr ⟨_, _, _, Or.inr (Or.inl ⟨rfl, rfl, rfl, hlt, by omega⟩)⟩
      · exact Or.inr ⟨_, k, _, Or.inl ⟨rfl, rfl, t, hlt, q2, q3, by omega⟩⟩
    · obtain ⟨c, c1, c2⟩ := h.wgt t q1.1
      have := hb2.1 m hm t k q1
      exact Or.inr ⟨_, k, c, Or.inr (Or.inr ⟨rfl, t, q1, c2, c1, by omega⟩)⟩
theorem rStep.val {n T sz : Nat} {gl gf : Nat → Int32} {lc tl w : Nat → Nat} {R : Nat → Nat → Nat} {pos m pos' m' c : Nat} (h : rStep n T sz gl gf lc tl w R pos m pos' m' c) (hp : pos ≤ sz) (hm : m < n) : R pos m = R pos' m' + (c * 4096 + 1) ∧ pos' ≤ sz ∧ m' < n := by
  rcases h with ⟨rfl, rfl, t, a1, a2, a3, a4⟩ | ⟨rfl, rfl, rfl, a1, a2⟩ | ⟨rfl, t, a1, a2, a3, a4⟩
  · exact ⟨by omega, by omega, a2.2.1⟩
  · exact ⟨by omega, by omega, hm⟩
  · exact ⟨by omega, hp, a1.2.1⟩
/-- how many places weigh less -/
def cnt (n sz : Nat) (R : Nat → Nat → Nat) (v : Nat) : Nat := sm (fun i => if i / 200 ≤ sz ∧ i % 200 < n ∧ R (i / 200) (i % 200) < v then 1 else 0) 1800
theorem cnt_le (n sz : Nat) (R : Nat → Nat → Nat) (v : Nat) : cnt n sz R v ≤ 1800 := by
  have := sm_le (f := fun i => if i / 200 ≤ sz ∧ i % 200 < n ∧ R (i / 200) (i % 200) < v then 1 else 0) (g := fun _ => 1) (n := 1800) (fun i _ => by split <;> omega)
  rwa [sm_one] at this
theorem cnt_lt {n sz : Nat} {R : Nat → Nat → Nat} {v pos m : Nat} (hn : n ≤ 200) (hs : sz ≤ 8) (hp : pos ≤ sz) (hm : m < n) (hv : R pos m < v) : cnt n sz R (R pos m) < cnt n sz R v := by
  have e1 : (pos * 200 + m) / 200 = pos := by omega
  have e2 : (pos * 200 + m) % 200 = m := by omega
  refine sm_lt (m := pos * 200 + m) (fun i _ => ?_) (by omega) ?_
  · skip
    split
    · rename_i a
      rw [if_pos ⟨a.1, a.2.1, by omega⟩]
      exact Nat.le_refl _
    · exact Nat.zero_le _
  · skip
    rw [e1, e2, if_neg (by omega), if_pos ⟨hp, hm, hv⟩]
    decide
theorem rOK.rank {n T sz l : Nat} {gl gf : Nat → Int32} {lc tl w : Nat → Nat} {R : Nat → Nat → Nat} (h : rOK n T sz l gl gf lc tl w R) (hn : n ≤ 200) (hs : sz ≤ 8) : ∀ (v pos m : Nat), R pos m ≤ v → pos ≤ sz → m < n → R pos m < 1073741824 →
    R pos m % 4096 ≤ cnt n sz R (R pos m) ∧ (R pos m % 4096 = 0 → R pos m = 0 ∧ pos = sz ∧ m = l) := by
  intro v
  induction v with
  | zero =>
    intro pos m h1 h2 h3 h4
    rcases h.next h2 h3 h4 with q | ⟨pos', m', c, q⟩
    · exact ⟨by rw [q.1]; exact Nat.zero_le _, fun _ => q⟩
    · have := (q.val h2 h3).1
      omega
  | succ v ih =>
    intro pos m h1 h2 h3 h4
    rcases h.next h2 h3 h4 with q | ⟨pos', m', c, q⟩
    · exact ⟨by rw [q.1]; exact Nat.zero_le _, fun _ => q⟩
    · obtain ⟨k1, k2, k3⟩ := q.val h2 h3
      obtain ⟨i1, -⟩ := ih pos' m' (by omega) k2 k3 (by omega)
      have c1 := cnt_lt (R := R) (v := R pos m) hn hs k2 k3 (by omega)
      have c2 := cnt_le n sz R (R pos m)
      omega
theorem rOK.small {n T sz l : Nat} {gl gf : Nat → Int32} {lc tl w : Nat → Nat} {R : Nat → Nat → Nat} (h : rOK n T sz l gl gf lc tl w R) (hn : n ≤ 200) (hs : sz ≤ 8) {pos m : Nat} (hp : pos ≤ sz) (hm : m < n) (hf : R pos m < 1073741824) : R pos m % 4096 ≤ 1800 := by
  have := (h.rank hn hs _ pos m (Nat.le_refl _) hp hm hf).1
  have := cnt_le n sz R (R pos m)
  omega
/-- what a step does to number and cost -/
theorem rOK.step {n T sz l : Nat} {gl gf : Nat → Int32} {lc tl w : Nat → Nat} {R : Nat → Nat → Nat} (h : rOK n T sz l gl gf lc tl w R) (hn : n ≤ 200) (hs : sz ≤ 8) {pos m pos' m' c : Nat} (hp : pos ≤ sz) (hm : m < n) (hf : R pos m < 1073741824) (q : rStep n T sz gl gf lc tl w R pos m pos' m' c) :
    R pos m % 4096 = R pos' m' % 4096 + 1 ∧ R pos m / 4096 = R pos' m' / 4096 + c ∧ R pos' m' < 1073741824 ∧ pos' ≤ sz ∧ m' < n := by
  obtain ⟨k1, k2, k3⟩ := q.val hp hm
  have := h.small hn hs k2 k3 (by omega)
  exact ⟨by omega, by omega, by omega, k2, k3⟩
/-- each marking but the first has one before it that leads to it -/
def reachO (n T : Nat) (gf : Nat → Int32) : Prop := ∀ k, 0 < k → k < n → ∃ m t, m < k ∧ Ed n T gf m t k
theorem reach_le {n T : Nat} {gf : Nat → Int32} {w r : Nat → Nat} (hr : reachO n T gf) (hc : closed n T gf w r) {M : Nat} (hw : ∀ t, t < T → w t ≤ M) : ∀ b k, k ≤ b → k < n → r 0 ≤ r k + M * k := by
  intro b
  induction b with
  | zero =>
    intro k h1 h2
    obtain rfl : k = 0 := by omega
    omega
  | succ b ih =>
    intro k h1 h2
    rcases Nat.eq_zero_or_pos k with rfl | z
    · omega
    · obtain ⟨m, t, q1, q2⟩ := hr k z h2
      have a1 := ih m (by omega) (by omega)
      have a2 := hc m (by omega) t k q2
      have a3 := hw t q2.1
      have a4 : M * m + M ≤ M * k := by
        rw [← Nat.mul_succ]
        exact Nat.mul_le_mul_left M q1
      omega
