/-! from the stored traces on -/
section LAW
variable {nm : String} {L : Nat} {xs : Nat → Int32} {sc : am_C}
set_option maxRecDepth 100000 in
set_option maxHeartbeats 4000000 in
theorem lw_rest {ce many n T P : Nat} {la : Int32} {gl gf gco ge rws cnt sz tm : Nat → Int32} {trc : Nat → Option Nat} {LB : Nat → Nat → Int32} {E : am_H} {co : Nat → Nat} {h : am_H} (I : LI h sc many n T P la gl gf gco ge rws cnt trc sz tm LB E many) (hsc : sc = .inl (99, L, .inl xs)) (hL : L < 2 ^ 31) (hm : many ≤ 3) (hn0 : 0 < n) (hn : n ≤ 200) (hT : T ≤ 6) (hc1 : cnt 1 = nI T) (hwf : wfF n T gf) (hre : reachO n T gf) (N : netOK n T gl gf ge rws gco co) (l8 l9 l10 l11 l12 l13 : Option Value) :
    lB nm 415 [some (.ref 0), some (.ref 1), some (.ref 53), some (.ref 54), some (.ref 55), some (.int (nI many)), some (.int (nI ce)), some (.int (nI many)), l8, l9, l10, l11, l12, l13] [] h 1 3600 := by
  obtain ⟨i0, i1, i2, i3, i4, i5, i6, ⟨gb, i7⟩, i8, i9, i10, i11, W, i13, i14, i15⟩ := I
  obtain ⟨t1, t2⟩ := i14 many (Nat.le_refl _) (by omega)
  have p0 : PI h sc many n T P la gl gf gco ge rws cnt (LB many) (sz many) (tm many) 0 gb := ⟨by omega, i1, i2, i3, i4, i5, i6, i7, i8, i9, i10, W, i13 many (by omega), t1, t2⟩
  refine am_B.run (hp := false) (sp := [427]) 200 rfl ?_
  exact lw_play (nm := nm) (ce := ce) (rc := 1) (rs := 3600) hsc hL hm hn hT hc1 N (fun h at_ size sil st gb I ha hs hsil hst hlab hpl l10 l11 l12 l13 => lw_tail I hm hn hT hwf hre N ha hs hsil hst hlab hpl) 12 0 (by decide) h 0 0 0 gb p0 hn0 (by decide) (by decide) (fun i hi => absurd hi (by omega)) (fun l hl => fun sz tl w R o hw hp hg => by omega) _ _ _
end LAW
