/-! THE PLAIN MACHINE: switches, rows of rows -/
theorem am_assign_self (vm : Vm) (c : ClassId) : vm.assignable c c = true := by
  show vm.assignableAux _ c c = true
  unfold Vm.assignableAux
  simp
section MORE
variable {E : am_E} {R : Room} {Z : am_Z} {pc : Nat} {lo : am_L} {st : List Value} {h : am_H} {rc rs : Nat} {r : am_Row}
theorem am_B.tswIn {x : Int32} {dflt l0 h0 : Int} {offs : Array Int} {len tgt : Nat} {off : Int} (hd : decode E.2.2.1.2.1 pc = .ok (.tableswitch dflt l0 h0 offs, len)) (h1 : ¬ x.toInt < l0) (h2 : ¬ h0 < x.toInt) (ho : offs[(x.toInt - l0).toNat]? = some off) (ht : (pc : Int) + off = (tgt : Int))
    (k : am_B E R Z tgt lo st h rc rs) : am_B E R Z pc lo (.int x :: st) h rc rs := by
  intro ok l D cA sb base p e s m args below meth c C H locs cells slots ls hR hS g1 g2 hl
  exact lv_tableIn C.1 C.2.1 hd h1 h2 ho ht (k ok l D cA sb base p e s m args below meth c C H locs cells slots ls hR hS g1 g2 hl)
theorem am_B.tswOut {x : Int32} {dflt l0 h0 : Int} {offs : Array Int} {len tgt : Nat} (hd : decode E.2.2.1.2.1 pc = .ok (.tableswitch dflt l0 h0 offs, len)) (h1 : x.toInt < l0 ∨ h0 < x.toInt) (ht : (pc : Int) + dflt = (tgt : Int))
    (k : am_B E R Z tgt lo st h rc rs) : am_B E R Z pc lo (.int x :: st) h rc rs := by
  intro ok l D cA sb base p e s m args below meth c C H locs cells slots ls hR hS g1 g2 hl
  exact lv_tableOut C.1 C.2.1 hd h1 ht (k ok l D cA sb base p e s m args below meth c C H locs cells slots ls hR hS g1 g2 hl)
/-- new int[n][] -/
theorem am_B.newA {i n : Nat} {j : Int32} (hf : am_find E.2.2.2 pc = some r) (hi : r.2.1 = .anewarray i) (hw1 : Jvm.Cond.classLink E.2.2.1.1.cls i (FieldType.array FieldType.int).toString ∈ E.1.2) (hj : j = nI n) (hn : n ≤ 60000000)
    (k : am_B E R Z (pc + 3) lo (.ref h.length :: st) (h ++ [.inl (5, n, .inr (.inr (.inr (.inr fun _ => none))))]) rc rs) : am_B E R Z pc lo (.int j :: st) h (rc + 1) (rs + n) := by
  intro ok l D cA sb base p e s m args below meth c C H locs cells slots ls hR hS h1 h2 hl
  have K := fun H1 a1 a2 => k ok l D cA sb base p e s m args below meth c C H1 locs (cells + 1) (slots + n) ls a1 a2 (by omega) (by omega) hl
  obtain ⟨hm0, rfl⟩ := am_find_ok hf
  obtain ⟨hd, -, -⟩ := ok.2.2 r hm0
  obtain ⟨hx, hb, hml, hret, hown, hts, hK, hlk, hnm⟩ := C
  rw [hi] at hd
  have hn31 : n < 2 ^ 31 := by omega
  subst hj
  have hcl := nI_clamp hn31
  refine W.anewA hx hb hown (hts _ hw1) (show (Jvm.Cond.arrayOver (.array .int)).before args s = true from hK.2.2.2.2) rfl hd rfl (nI_pos hn31) (by rw [hcl]; omega) (by omega) (by rw [hcl]; omega) fun cA' kA comp f1 f2 f3 f4 => ?_
  rw [hcl]
  generalize hH1 : H.push ({ cls := cA', slots := Array.replicate n .null, vm := .none } : Cell) = H1
  have z1 : H1.size = H.size + 1 := by rw [← hH1, Array.size_push]
  have e1 : H1[H.size]? = some (arrV cA' n (fun _ => .null)) := by rw [← hH1, Array.getElem?_push_size, ← arrV_new]
  have o1 : ∀ q : Nat, q < H.size → H1[q]? = H[q]? := fun q hq => by rw [← hH1, Array.getElem?_push, if_neg (Nat.ne_of_lt hq)]
  have ecA : cA' = cA 5 := Option.some.inj (f1.symm.trans (hK.2.1 5 (.array .int) rfl rfl).2)
  rw [← hR.next]
  refine K H1 (hR.push z1 o1 (am_mk_q (by decide) ?_)) ⟨Nat.le_trans hS.1 (by omega), fun x a1 a2 => (o1 x (Nat.lt_of_lt_of_le a1 hS.1)).trans (hS.2.1 x a1 a2), hS.2.2⟩
  rw [e1, ecA]
  rfl
/-- a row into a row of rows -/
theorem am_B.aastA {a b n : Nat} {f : Nat → Option Nat} {y : Nat × (Nat → Int32)} {j : Int32} (hf : am_find E.2.2.2 pc = some r) (hi : r.2.1 = .aastore) (ha : h[a]? = some (.inl (5, n, .inr (.inr (.inr (.inr f)))))) (hb0 : h[b]? = some (.inl (0, y.1, .inl y.2))) (hin : vp_in j n)
    (k : am_B E R Z r.2.2.1 lo st (h.set a (.inl (5, n, .inr (.inr (.inr (.inr (va_up f j.toNatClampNeg (some b)))))))) rc rs) : am_B E R Z pc lo (.ref b :: .int j :: .ref a :: st) h rc rs := by
  intro ok l D cA sb base p e s m args below meth c C H locs cells slots ls hR hS h1 h2 hl
  have K := fun H1 l1 q1 q2 => k ok l D cA sb base p e s m args below meth c C H1 l1 cells slots ls q1 q2 h1 h2 hl
  obtain ⟨hm0, rfl⟩ := am_find_ok hf
  obtain ⟨hd, hn, -⟩ := ok.2.2 r hm0
  obtain ⟨hx, hb, hml, hret, hown, hts, hK, hlk, hnm⟩ := C
  rw [hi] at hd hn
  rw [hn] at K
  have a0 : a ≠ 0 := by
    rintro rfl
    obtain ⟨x, hx⟩ := hR.2.2.1
    rw [hx] at ha
    cases ha
  have aB : base ≤ am_ad sb base a := by
    obtain ⟨j, rfl⟩ : ∃ j, a = j + 1 := ⟨a - 1, by omega⟩
    exact am_ad_ge
  have hA := am_at_q (hR.2.2.2 a _ ha) (by decide)
  have hB := am_at_i (hR.2.2.2 b _ hb0) (by decide)
  have hlt : j.toNatClampNeg < n := Nat.not_le.mp fun q => hin (Or.inr q)
  have hj0 : ¬ j < 0 := fun q => hin (Or.inl q)
  obtain ⟨comp, c5, k5, s1, -, s3, s4, s5⟩ := am_AOA_spec hK.2.2.2.2
  have ec5 : c5 = cA 5 := Option.some.inj (s5.symm.trans (hK.2.1 5 (.array .int) rfl rfl).2)
  have ecI : comp = cA 0 := Option.some.inj (s1.symm.trans (hK.2.1 0 .int rfl rfl).2)
  subst ec5; subst ecI
  obtain ⟨-, kI, hkI, -⟩ := (hK.2.1 0 .int rfl rfl).1 0 (fun _ => .null)
  refine W.aast hx hb hA (fun q h => by cases h) (fun h => by cases h) s3 s4 rfl hkI ⟨hj0, by rw [arrV_size]; exact hlt⟩ hB (fun q h => by cases h) hkI (am_assign_self _ _) rfl rfl hd fun H1 e z oq => ?_
  refine K H1 _ (hR.set ha z oq a0 (am_mk_q (by decide) ?_)) (hS.put z oq aB)
  rw [e, arrV_store]
  congr 2
  funext q
  by_cases hq : q = j.toNatClampNeg
  · subst hq
    simp [updV, va_up, va_rf]
  · simp [updV, va_up, hq]
end MORE
