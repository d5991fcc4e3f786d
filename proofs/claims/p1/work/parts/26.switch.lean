/-! THE LAW: its switch, its loop -/
theorem lw_and31 (x : Int32) : ∃ k, k < 32 ∧ x &&& nI 31 = nI k := by
  refine ⟨(x.toBitVec &&& (nI 31).toBitVec).toNat, ?_, ?_⟩
  · rw [BitVec.toNat_and]
    exact Nat.lt_of_le_of_lt Nat.and_le_right (by decide)
  · refine Int32.toBitVec_inj.mp ?_
    rw [Int32.toBitVec_and]
    show _ = BitVec.ofNat 32 _
    rw [BitVec.ofNat_toNat, BitVec.setWidth_eq]
set_option maxRecDepth 100000 in
set_option maxHeartbeats 4000000 in
theorem lw_sw : decode code 44 = .ok (.tableswitch 1849 0 28 #[132, 176, 232, 363, 459, 515, 571, 584, 652, 708, 776, 820, 864, 908, 964, 1020, 1076, 1120, 1176, 1244, 1312, 1368, 1424, 1504, 1560, 1637, 1705, 1770, 1835], 132) := by decide +kernel
theorem lw_at0 (nm : String) (xs : Nat → Int32) (h : am_H) (X : xF h) (M : mF h) (h0 : h[0]? = some (.inl (99, 5, .inl xs))) (h69 : h[69]? = some (la fun _ => 0)) (h70 : h[70]? = some (da fun _ => 0)) (rc rs : Nat) (h3 : 3 ≤ rc) (h4 : 406 ≤ rs) : lB nm 44 [some (.ref 0), some (.ref 1), some (.ref 53), some (.ref 69), some (.ref 70), some (.int (nI 0)), none, none, none] [.int (nI 0)] h rc rs :=
  am_B.tswIn (tgt := 176) lw_sw (by decide) (by decide) rfl rfl (am_B.more (lwt_0 nm xs h X M h0 h69 h70) h3 h4)
theorem lw_at1 (nm : String) (xs : Nat → Int32) (h : am_H) (X : xF h) (M : mF h) (h0 : h[0]? = some (.inl (99, 5, .inl xs))) (h69 : h[69]? = some (la fun _ => 0)) (h70 : h[70]? = some (da fun _ => 0)) (rc rs : Nat) (h3 : 3 ≤ rc) (h4 : 406 ≤ rs) : lB nm 44 [some (.ref 0), some (.ref 1), some (.ref 53), some (.ref 69), some (.ref 70), some (.int (nI 0)), none, none, none] [.int (nI 1)] h rc rs :=
  am_B.tswIn (tgt := 220) lw_sw (by decide) (by decide) rfl rfl (am_B.more (lwt_1 nm xs h X M h0 h69 h70) h3 h4)
theorem lw_at2 (nm : String) (xs : Nat → Int32) (h : am_H) (X : xF h) (M : mF h) (h0 : h[0]? = some (.inl (99, 5, .inl xs))) (h69 : h[69]? = some (la fun _ => 0)) (h70 : h[70]? = some (da fun _ => 0)) (rc rs : Nat) (h3 : 3 ≤ rc) (h4 : 406 ≤ rs) : lB nm 44 [some (.ref 0), some (.ref 1), some (.ref 53), some (.ref 69), some (.ref 70), some (.int (nI 0)), none, none, none] [.int (nI 2)] h rc rs :=
  am_B.tswIn (tgt := 276) lw_sw (by decide) (by decide) rfl rfl (am_B.more (lwt_2 nm xs h X M h0 h69 h70) h3 h4)
theorem lw_at3 (nm : String) (xs : Nat → Int32) (h : am_H) (X : xF h) (M : mF h) (h0 : h[0]? = some (.inl (99, 5, .inl xs))) (h69 : h[69]? = some (la fun _ => 0)) (h70 : h[70]? = some (da fun _ => 0)) (rc rs : Nat) (h3 : 3 ≤ rc) (h4 : 406 ≤ rs) : lB nm 44 [some (.ref 0), some (.ref 1), some (.ref 53), some (.ref 69), some (.ref 70), some (.int (nI 0)), none, none, none] [.int (nI 3)] h rc rs :=
  am_B.tswIn (tgt := 407) lw_sw (by decide) (by decide) rfl rfl (am_B.more (lwt_3 nm xs h X M h0 h69 h70) h3 h4)
theorem lw_at4 (nm : String) (xs : Nat → Int32) (h : am_H) (X : xF h) (M : mF h) (h0 : h[0]? = some (.inl (99, 5, .inl xs))) (h69 : h[69]? = some (la fun _ => 0)) (h70 : h[70]? = some (da fun _ => 0)) (rc rs : Nat) (h3 : 3 ≤ rc) (h4 : 406 ≤ rs) : lB nm 44 [some (.ref 0), some (.ref 1), some (.ref 53), some (.ref 69), some (.ref 70), some (.int (nI 0)), none, none, none] [.int (nI 4)] h rc rs :=
  am_B.tswIn (tgt := 503) lw_sw (by decide) (by decide) rfl rfl (am_B.more (lwt_4 nm xs h X M h0 h69 h70) h3 h4)
theorem lw_at5 (nm : String) (xs : Nat → Int32) (h : am_H) (X : xF h) (M : mF h) (h0 : h[0]? = some (.inl (99, 5, .inl xs))) (h69 : h[69]? = some (la fun _ => 0)) (h70 : h[70]? = some (da fun _ => 0)) (rc rs : Nat) (h3 : 3 ≤ rc) (h4 : 406 ≤ rs) : lB nm 44 [some (.ref 0), some (.ref 1), some (.ref 53), some (.ref 69), some (.ref 70), some (.int (nI 0)), none, none, none] [.int (nI 5)] h rc rs :=
  am_B.tswIn (tgt := 559) lw_sw (by decide) (by decide) rfl rfl (am_B.more (lwt_5 nm xs h X M h0 h69 h70) h3 h4)
theorem lw_at6 (nm : String) (xs : Nat → Int32) (h : am_H) (X : xF h) (M : mF h) (h0 : h[0]? = some (.inl (99, 5, .inl xs))) (h69 : h[69]? = some (la fun _ => 0)) (h70 : h[70]? = some (da fun _ => 0)) (rc rs : Nat) (h3 : 3 ≤ rc) (h4 : 406 ≤ rs) : lB nm 44 [some (.ref 0), some (.ref 1), some (.ref 53), some (.ref 69), some (.ref 70), some (.int (nI 0)), none, none, none] [.int (nI 6)] h rc rs :=
  am_B.tswIn (tgt := 615) lw_sw (by decide) (by decide) rfl rfl (am_B.more (lwt_6 nm xs h X M h0 h69 h70) h3 h4)
theorem lw_at7 (nm : String) (xs : Nat → Int32) (h : am_H) (X : xF h) (M : mF h) (h0 : h[0]? = some (.inl (99, 5, .inl xs))) (h69 : h[69]? = some (la fun _ => 0)) (h70 : h[70]? = some (da fun _ => 0)) (rc rs : Nat) (h3 : 3 ≤ rc) (h4 : 406 ≤ rs) : lB nm 44 [some (.ref 0), some (.ref 1), some (.ref 53), some (.ref 69), some (.ref 70), some (.int (nI 0)), none, none, none] [.int (nI 7)] h rc rs :=
  am_B.tswIn (tgt := 628) lw_sw (by decide) (by decide) rfl rfl (am_B.more (lwt_7 nm xs h X M h0 h69 h70) h3 h4)
theorem lw_at8 (nm : String) (xs : Nat → Int32) (h : am_H) (X : xF h) (M : mF h) (h0 : h[0]? = some (.inl (99, 5, .inl xs))) (h69 : h[69]? = some (la fun _ => 0)) (h70 : h[70]? = some (da fun _ => 0)) (rc rs : Nat) (h3 : 3 ≤ rc) (h4 : 406 ≤ rs) : lB nm 44 [some (.ref 0), some (.ref 1), some (.ref 53), some (.ref 69), some (.ref 70), some (.int (nI 0)), none, none, none] [.int (nI 8)] h rc rs :=
  am_B.tswIn (tgt := 696) lw_sw (by decide) (by decide) rfl rfl (am_B.more (lwt_8 nm xs h X M h0 h69 h70) h3 h4)
theorem lw_at9 (nm : String) (xs : Nat → Int32) (h : am_H) (X : xF h) (M : mF h) (h0 : h[0]? = some (.inl (99, 5, .inl xs))) (h69 : h[69]? = some (la fun _ => 0)) (h70 : h[70]? = some (da fun _ => 0)) (rc rs : Nat) (h3 : 3 ≤ rc) (h4 : 406 ≤ rs) : lB nm 44 [some (.ref 0), some (.ref 1), some (.ref 53), some (.ref 69), some (.ref 70), some (.int (nI 0)), none, none, none] [.int (nI 9)] h rc rs :=
  am_B.tswIn (tgt := 752) lw_sw (by decide) (by decide) rfl rfl (am_B.more (lwt_9 nm xs h X M h0 h69 h70) h3 h4)
theorem lw_at10 (nm : String) (xs : Nat → Int32) (h : am_H) (X : xF h) (M : mF h) (h0 : h[0]? = some (.inl (99, 5, .inl xs))) (h69 : h[69]? = some (la fun _ => 0)) (h70 : h[70]? = some (da fun _ => 0)) (rc rs : Nat) (h3 : 3 ≤ rc) (h4 : 406 ≤ rs) : lB nm 44 [some (.ref 0), some (.ref 1), some (.ref 53), some (.ref 69), some (.ref 70), some (.int (nI 0)), none, none, none] [.int (nI 10)] h rc rs :=
  am_B.tswIn (tgt := 820) lw_sw (by decide) (by decide) rfl rfl (am_B.more (lwt_10 nm xs h X M h0 h69 h70) h3 h4)
theorem lw_at11 (nm : String) (xs : Nat → Int32) (h : am_H) (X : xF h) (M : mF h) (h0 : h[0]? = some (.inl (99, 5, .inl xs))) (h69 : h[69]? = some (la fun _ => 0)) (h70 : h[70]? = some (da fun _ => 0)) (rc rs : Nat) (h3 : 3 ≤ rc) (h4 : 406 ≤ rs) : lB nm 44 [some (.ref 0), some (.ref 1), some (.ref 53), some (.ref 69), some (.ref 70), some (.int (nI 0)), none, none, none] [.int (nI 11)] h rc rs :=
  am_B.tswIn (tgt := 864) lw_sw (by decide) (by decide) rfl rfl (am_B.more (lwt_11 nm xs h X M h0 h69 h70) h3 h4)
theorem lw_at12 (nm : String) (xs : Nat → Int32) (h : am_H) (X : xF h) (M : mF h) (h0 : h[0]? = some (.inl (99, 5, .inl xs))) (h69 : h[69]? = some (la fun _ => 0)) (h70 : h[70]? = some (da fun _ => 0)) (rc rs : Nat) (h3 : 3 ≤ rc) (h4 : 406 ≤ rs) : lB nm 44 [some (.ref 0), some (.ref 1), some (.ref 53), some (.ref 69), some (.ref 70), some (.int (nI 0)), none, none, none] [.int (nI 12)] h rc rs :=
  am_B.tswIn (tgt := 908) lw_sw (by decide) (by decide) rfl rfl (am_B.more (lwt_12 nm xs h X M h0 h69 h70) h3 h4)
theorem lw_at13 (nm : String) (xs : Nat → Int32) (h : am_H) (X : xF h) (M : mF h) (h0 : h[0]? = some (.inl (99, 5, .inl xs))) (h69 : h[69]? = some (la fun _ => 0)) (h70 : h[70]? = some (da fun _ => 0)) (rc rs : Nat) (h3 : 3 ≤ rc) (h4 : 406 ≤ rs) : lB nm 44 [some (.ref 0), some (.ref 1), some (.ref 53), some (.ref 69), some (.ref 70), some (.int (nI 0)), none, none, none] [.int (nI 13)] h rc rs :=
  am_B.tswIn (tgt := 952) lw_sw (by decide) (by decide) rfl rfl (am_B.more (lwt_13 nm xs h X M h0 h69 h70) h3 h4)
theorem lw_at14 (nm : String) (xs : Nat → Int32) (h : am_H) (X : xF h) (M : mF h) (h0 : h[0]? = some (.inl (99, 5, .inl xs))) (h69 : h[69]? = some (la fun _ => 0)) (h70 : h[70]? = some (da fun _ => 0)) (rc rs : Nat) (h3 : 3 ≤ rc) (h4 : 406 ≤ rs) : lB nm 44 [some (.ref 0), some (.ref 1), some (.ref 53), some (.ref 69), some (.ref 70), some (.int (nI 0)), none, none, none] [.int (nI 14)] h rc rs :=
  am_B.tswIn (tgt := 1008) lw_sw (by decide) (by decide) rfl rfl (am_B.more (lwt_14 nm xs h X M h0 h69 h70) h3 h4)
theorem lw_at15 (nm : String) (xs : Nat → Int32) (h : am_H) (X : xF h) (M : mF h) (h0 : h[0]? = some (.inl (99, 5, .inl xs))) (h69 : h[69]? = some (la fun _ => 0)) (h70 : h[70]? = some (da fun _ => 0)) (rc rs : Nat) (h3 : 3 ≤ rc) (h4 : 406 ≤ rs) : lB nm 44 [some (.ref 0), some (.ref 1), some (.ref 53), some (.ref 69), some (.ref 70), some (.int (nI 0)), none, none, none] [.int (nI 15)] h rc rs :=
  am_B.tswIn (tgt := 1064) lw_sw (by decide) (by decide) rfl rfl (am_B.more (lwt_15 nm xs h X M h0 h69 h70) h3 h4)
theorem lw_at16 (nm : String) (xs : Nat → Int32) (h : am_H) (X : xF h) (M : mF h) (h0 : h[0]? = some (.inl (99, 5, .inl xs))) (h69 : h[69]? = some (la fun _ => 0)) (h70 : h[70]? = some (da fun _ => 0)) (rc rs : Nat) (h3 : 3 ≤ rc) (h4 : 406 ≤ rs) : lB nm 44 [some (.ref 0), some (.ref 1), some (.ref 53), some (.ref 69), some (.ref 70), some (.int (nI 0)), none, none, none] [.int (nI 16)] h rc rs :=
  am_B.tswIn (tgt := 1120) lw_sw (by decide) (by decide) rfl rfl (am_B.more (lwt_16 nm xs h X M h0 h69 h70) h3 h4)
theorem lw_at17 (nm : String) (xs : Nat → Int32) (h : am_H) (X : xF h) (M : mF h) (h0 : h[0]? = some (.inl (99, 5, .inl xs))) (h69 : h[69]? = some (la fun _ => 0)) (h70 : h[70]? = some (da fun _ => 0)) (rc rs : Nat) (h3 : 3 ≤ rc) (h4 : 406 ≤ rs) : lB nm 44 [some (.ref 0), some (.ref 1), some (.ref 53), some (.ref 69), some (.ref 70), some (.int (nI 0)), none, none, none] [.int (nI 17)] h rc rs :=
  am_B.tswIn (tgt := 1164) lw_sw (by decide) (by decide) rfl rfl (am_B.more (lwt_17 nm xs h X M h0 h69 h70) h3 h4)
theorem lw_at18 (nm : String) (xs : Nat → Int32) (h : am_H) (X : xF h) (M : mF h) (h0 : h[0]? = some (.inl (99, 5, .inl xs))) (h69 : h[69]? = some (la fun _ => 0)) (h70 : h[70]? = some (da fun _ => 0)) (rc rs : Nat) (h3 : 3 ≤ rc) (h4 : 406 ≤ rs) : lB nm 44 [some (.ref 0), some (.ref 1), some (.ref 53), some (.ref 69), some (.ref 70), some (.int (nI 0)), none, none, none] [.int (nI 18)] h rc rs :=
  am_B.tswIn (tgt := 1220) lw_sw (by decide) (by decide) rfl rfl (am_B.more (lwt_18 nm xs h X M h0 h69 h70) h3 h4)
theorem lw_at19 (nm : String) (xs : Nat → Int32) (h : am_H) (X : xF h) (M : mF h) (h0 : h[0]? = some (.inl (99, 5, .inl xs))) (h69 : h[69]? = some (la fun _ => 0)) (h70 : h[70]? = some (da fun _ => 0)) (rc rs : Nat) (h3 : 3 ≤ rc) (h4 : 406 ≤ rs) : lB nm 44 [some (.ref 0), some (.ref 1), some (.ref 53), some (.ref 69), some (.ref 70), some (.int (nI 0)), none, none, none] [.int (nI 19)] h rc rs :=
  am_B.tswIn (tgt := 1288) lw_sw (by decide) (by decide) rfl rfl (am_B.more (lwt_19 nm xs h X M h0 h69 h70) h3 h4)
theorem lw_at20 (nm : String) (xs : Nat → Int32) (h : am_H) (X : xF h) (M : mF h) (h0 : h[0]? = some (.inl (99, 5, .inl xs))) (h69 : h[69]? = some (la fun _ => 0)) (h70 : h[70]? = some (da fun _ => 0)) (rc rs : Nat) (h3 : 3 ≤ rc) (h4 : 406 ≤ rs) : lB nm 44 [some (.ref 0), some (.ref 1), some (.ref 53), some (.ref 69), some (.ref 70), some (.int (nI 0)), none, none, none] [.int (nI 20)] h rc rs :=
  am_B.tswIn (tgt := 1356) lw_sw (by decide) (by decide) rfl rfl (am_B.more (lwt_20 nm xs h X M h0 h69 h70) h3 h4)
theorem lw_at21 (nm : String) (xs : Nat → Int32) (h : am_H) (X : xF h) (M : mF h) (h0 : h[0]? = some (.inl (99, 5, .inl xs))) (h69 : h[69]? = some (la fun _ => 0)) (h70 : h[70]? = some (da fun _ => 0)) (rc rs : Nat) (h3 : 3 ≤ rc) (h4 : 406 ≤ rs) : lB nm 44 [some (.ref 0), some (.ref 1), some (.ref 53), some (.ref 69), some (.ref 70), some (.int (nI 0)), none, none, none] [.int (nI 21)] h rc rs :=
  am_B.tswIn (tgt := 1412) lw_sw (by decide) (by decide) rfl rfl (am_B.more (lwt_21 nm xs h X M h0 h69 h70) h3 h4)
theorem lw_at22 (nm : String) (xs : Nat → Int32) (h : am_H) (X : xF h) (M : mF h) (h0 : h[0]? = some (.inl (99, 5, .inl xs))) (h69 : h[69]? = some (la fun _ => 0)) (h70 : h[70]? = some (da fun _ => 0)) (rc rs : Nat) (h3 : 3 ≤ rc) (h4 : 406 ≤ rs) : lB nm 44 [some (.ref 0), some (.ref 1), some (.ref 53), some (.ref 69), some (.ref 70), some (.int (nI 0)), none, none, none] [.int (nI 22)] h rc rs :=
  am_B.tswIn (tgt := 1468) lw_sw (by decide) (by decide) rfl rfl (am_B.more (lwt_22 nm xs h X M h0 h69 h70) h3 h4)
theorem lw_at23 (nm : String) (xs : Nat → Int32) (h : am_H) (X : xF h) (M : mF h) (h0 : h[0]? = some (.inl (99, 5, .inl xs))) (h69 : h[69]? = some (la fun _ => 0)) (h70 : h[70]? = some (da fun _ => 0)) (rc rs : Nat) (h3 : 3 ≤ rc) (h4 : 406 ≤ rs) : lB nm 44 [some (.ref 0), some (.ref 1), some (.ref 53), some (.ref 69), some (.ref 70), some (.int (nI 0)), none, none, none] [.int (nI 23)] h rc rs :=
  am_B.tswIn (tgt := 1548) lw_sw (by decide) (by decide) rfl rfl (am_B.more (lwt_23 nm xs h X M h0 h69 h70) h3 h4)
theorem lw_at24 (nm : String) (xs : Nat → Int32) (h : am_H) (X : xF h) (M : mF h) (h0 : h[0]? = some (.inl (99, 5, .inl xs))) (h69 : h[69]? = some (la fun _ => 0)) (h70 : h[70]? = some (da fun _ => 0)) (rc rs : Nat) (h3 : 3 ≤ rc) (h4 : 406 ≤ rs) : lB nm 44 [some (.ref 0), some (.ref 1), some (.ref 53), some (.ref 69), some (.ref 70), some (.int (nI 0)), none, none, none] [.int (nI 24)] h rc rs :=
  am_B.tswIn (tgt := 1604) lw_sw (by decide) (by decide) rfl rfl (am_B.more (lwt_24 nm xs h X M h0 h69 h70) h3 h4)
theorem lw_at25 (nm : String) (xs : Nat → Int32) (h : am_H) (X : xF h) (M : mF h) (h0 : h[0]? = some (.inl (99, 5, .inl xs))) (h69 : h[69]? = some (la fun _ => 0)) (h70 : h[70]? = some (da fun _ => 0)) (rc rs : Nat) (h3 : 3 ≤ rc) (h4 : 406 ≤ rs) : lB nm 44 [some (.ref 0), some (.ref 1), some (.ref 53), some (.ref 69), some (.ref 70), some (.int (nI 0)), none, none, none] [.int (nI 25)] h rc rs :=
  am_B.tswIn (tgt := 1681) lw_sw (by decide) (by decide) rfl rfl (am_B.more (lwt_25 nm xs h X M h0 h69 h70) h3 h4)
theorem lw_at26 (nm : String) (xs : Nat → Int32) (h : am_H) (X : xF h) (M : mF h) (h0 : h[0]? = some (.inl (99, 5, .inl xs))) (h69 : h[69]? = some (la fun _ => 0)) (h70 : h[70]? = some (da fun _ => 0)) (rc rs : Nat) (h3 : 3 ≤ rc) (h4 : 406 ≤ rs) : lB nm 44 [some (.ref 0), some (.ref 1), some (.ref 53), some (.ref 69), some (.ref 70), some (.int (nI 0)), none, none, none] [.int (nI 26)] h rc rs :=
  am_B.tswIn (tgt := 1749) lw_sw (by decide) (by decide) rfl rfl (am_B.more (lwt_26 nm xs h X M h0 h69 h70) h3 h4)
theorem lw_at27 (nm : String) (xs : Nat → Int32) (h : am_H) (X : xF h) (M : mF h) (h0 : h[0]? = some (.inl (99, 5, .inl xs))) (h69 : h[69]? = some (la fun _ => 0)) (h70 : h[70]? = some (da fun _ => 0)) (rc rs : Nat) (h3 : 3 ≤ rc) (h4 : 406 ≤ rs) : lB nm 44 [some (.ref 0), some (.ref 1), some (.ref 53), some (.ref 69), some (.ref 70), some (.int (nI 0)), none, none, none] [.int (nI 27)] h rc rs :=
  am_B.tswIn (tgt := 1814) lw_sw (by decide) (by decide) rfl rfl (am_B.more (lwt_27 nm xs h X M h0 h69 h70) h3 h4)
theorem lw_at28 (nm : String) (xs : Nat → Int32) (h : am_H) (X : xF h) (M : mF h) (h0 : h[0]? = some (.inl (99, 5, .inl xs))) (h69 : h[69]? = some (la fun _ => 0)) (h70 : h[70]? = some (da fun _ => 0)) (rc rs : Nat) (h3 : 3 ≤ rc) (h4 : 406 ≤ rs) : lB nm 44 [some (.ref 0), some (.ref 1), some (.ref 53), some (.ref 69), some (.ref 70), some (.int (nI 0)), none, none, none] [.int (nI 28)] h rc rs :=
  am_B.tswIn (tgt := 1879) lw_sw (by decide) (by decide) rfl rfl (am_B.more (lwt_28 nm xs h X M h0 h69 h70) h3 h4)
theorem lw_at29 (nm : String) (xs : Nat → Int32) (h : am_H) (X : xF h) (M : mF h) (h0 : h[0]? = some (.inl (99, 5, .inl xs))) (h69 : h[69]? = some (la fun _ => 0)) (h70 : h[70]? = some (da fun _ => 0)) (rc rs : Nat) (h3 : 3 ≤ rc) (h4 : 406 ≤ rs) : lB nm 44 [some (.ref 0), some (.ref 1), some (.ref 53), some (.ref 69), some (.ref 70), some (.int (nI 0)), none, none, none] [.int (nI 29)] h rc rs :=
  am_B.tswOut (tgt := 1893) lw_sw (Or.inr (by decide)) rfl (lc_end nm xs _ h0 _ _ _ _ _)
theorem lw_at30 (nm : String) (xs : Nat → Int32) (h : am_H) (X : xF h) (M : mF h) (h0 : h[0]? = some (.inl (99, 5, .inl xs))) (h69 : h[69]? = some (la fun _ => 0)) (h70 : h[70]? = some (da fun _ => 0)) (rc rs : Nat) (h3 : 3 ≤ rc) (h4 : 406 ≤ rs) : lB nm 44 [some (.ref 0), some (.ref 1), some (.ref 53), some (.ref 69), some (.ref 70), some (.int (nI 0)), none, none, none] [.int (nI 30)] h rc rs :=
  am_B.tswOut (tgt := 1893) lw_sw (Or.inr (by decide)) rfl (lc_end nm xs _ h0 _ _ _ _ _)
theorem lw_at31 (nm : String) (xs : Nat → Int32) (h : am_H) (X : xF h) (M : mF h) (h0 : h[0]? = some (.inl (99, 5, .inl xs))) (h69 : h[69]? = some (la fun _ => 0)) (h70 : h[70]? = some (da fun _ => 0)) (rc rs : Nat) (h3 : 3 ≤ rc) (h4 : 406 ≤ rs) : lB nm 44 [some (.ref 0), some (.ref 1), some (.ref 53), some (.ref 69), some (.ref 70), some (.int (nI 0)), none, none, none] [.int (nI 31)] h rc rs :=
  am_B.tswOut (tgt := 1893) lw_sw (Or.inr (by decide)) rfl (lc_end nm xs _ h0 _ _ _ _ _)
theorem lw_switch (nm : String) (xs : Nat → Int32) (h : am_H) (X : xF h) (M : mF h) (h0 : h[0]? = some (.inl (99, 5, .inl xs))) (h69 : h[69]? = some (la fun _ => 0)) (h70 : h[70]? = some (da fun _ => 0)) {x : Int32} : lB nm 44 [some (.ref 0), some (.ref 1), some (.ref 53), some (.ref 69), some (.ref 70), some (.int (nI 0)), none, none, none] [.int (x &&& nI 31)] h 3 406 := by
  obtain ⟨k, hk, e⟩ := lw_and31 x
  rw [e]
  obtain rfl | rfl | rfl | rfl | rfl | rfl | rfl | rfl | rfl | rfl | rfl | rfl | rfl | rfl | rfl | rfl | rfl | rfl | rfl | rfl | rfl | rfl | rfl | rfl | rfl | rfl | rfl | rfl | rfl | rfl | rfl | rfl : k = 0 ∨ k = 1 ∨ k = 2 ∨ k = 3 ∨ k = 4 ∨ k = 5 ∨ k = 6 ∨ k = 7 ∨ k = 8 ∨ k = 9 ∨ k = 10 ∨ k = 11 ∨ k = 12 ∨ k = 13 ∨ k = 14 ∨ k = 15 ∨ k = 16 ∨ k = 17 ∨ k = 18 ∨ k = 19 ∨ k = 20 ∨ k = 21 ∨ k = 22 ∨ k = 23 ∨ k = 24 ∨ k = 25 ∨ k = 26 ∨ k = 27 ∨ k = 28 ∨ k = 29 ∨ k = 30 ∨ k = 31 := by omega
  · exact lw_at0 nm xs h X M h0 h69 h70 3 406 (Nat.le_refl _) (Nat.le_refl _)
  · exact lw_at1 nm xs h X M h0 h69 h70 3 406 (Nat.le_refl _) (Nat.le_refl _)
  · exact lw_at2 nm xs h X M h0 h69 h70 3 406 (Nat.le_refl _) (Nat.le_refl _)
  · exact lw_at3 nm xs h X M h0 h69 h70 3 406 (Nat.le_refl _) (Nat.le_refl _)
  · exact lw_at4 nm xs h X M h0 h69 h70 3 406 (Nat.le_refl _) (Nat.le_refl _)
  · exact lw_at5 nm xs h X M h0 h69 h70 3 406 (Nat.le_refl _) (Nat.le_refl _)
  · exact lw_at6 nm xs h X M h0 h69 h70 3 406 (Nat.le_refl _) (Nat.le_refl _)
  · exact lw_at7 nm xs h X M h0 h69 h70 3 406 (Nat.le_refl _) (Nat.le_refl _)
  · exact lw_at8 nm xs h X M h0 h69 h70 3 406 (Nat.le_refl _) (Nat.le_refl _)
  · exact lw_at9 nm xs h X M h0 h69 h70 3 406 (Nat.le_refl _) (Nat.le_refl _)
  · exact lw_at10 nm xs h X M h0 h69 h70 3 406 (Nat.le_refl _) (Nat.le_refl _)
  · exact lw_at11 nm xs h X M h0 h69 h70 3 406 (Nat.le_refl _) (Nat.le_refl _)
  · exact lw_at12 nm xs h X M h0 h69 h70 3 406 (Nat.le_refl _) (Nat.le_refl _)
  · exact lw_at13 nm xs h X M h0 h69 h70 3 406 (Nat.le_refl _) (Nat.le_refl _)
  · exact lw_at14 nm xs h X M h0 h69 h70 3 406 (Nat.le_refl _) (Nat.le_refl _)
  · exact lw_at15 nm xs h X M h0 h69 h70 3 406 (Nat.le_refl _) (Nat.le_refl _)
  · exact lw_at16 nm xs h X M h0 h69 h70 3 406 (Nat.le_refl _) (Nat.le_refl _)
  · exact lw_at17 nm xs h X M h0 h69 h70 3 406 (Nat.le_refl _) (Nat.le_refl _)
  · exact lw_at18 nm xs h X M h0 h69 h70 3 406 (Nat.le_refl _) (Nat.le_refl _)
  · exact lw_at19 nm xs h X M h0 h69 h70 3 406 (Nat.le_refl _) (Nat.le_refl _)
  · exact lw_at20 nm xs h X M h0 h69 h70 3 406 (Nat.le_refl _) (Nat.le_refl _)
  · exact lw_at21 nm xs h X M h0 h69 h70 3 406 (Nat.le_refl _) (Nat.le_refl _)
  · exact lw_at22 nm xs h X M h0 h69 h70 3 406 (Nat.le_refl _) (Nat.le_refl _)
  · exact lw_at23 nm xs h X M h0 h69 h70 3 406 (Nat.le_refl _) (Nat.le_refl _)
  · exact lw_at24 nm xs h X M h0 h69 h70 3 406 (Nat.le_refl _) (Nat.le_refl _)
  · exact lw_at25 nm xs h X M h0 h69 h70 3 406 (Nat.le_refl _) (Nat.le_refl _)
  · exact lw_at26 nm xs h X M h0 h69 h70 3 406 (Nat.le_refl _) (Nat.le_refl _)
  · exact lw_at27 nm xs h X M h0 h69 h70 3 406 (Nat.le_refl _) (Nat.le_refl _)
  · exact lw_at28 nm xs h X M h0 h69 h70 3 406 (Nat.le_refl _) (Nat.le_refl _)
  · exact lw_at29 nm xs h X M h0 h69 h70 3 406 (Nat.le_refl _) (Nat.le_refl _)
  · exact lw_at30 nm xs h X M h0 h69 h70 3 406 (Nat.le_refl _) (Nat.le_refl _)
  · exact lw_at31 nm xs h X M h0 h69 h70 3 406 (Nat.le_refl _) (Nat.le_refl _)
set_option maxRecDepth 100000 in
set_option maxHeartbeats 4000000 in
theorem lw_loop5 (nm : String) (xs : Nat → Int32) (h : am_H) (X : xF h) (M : mF h) (h0 : h[0]? = some (.inl (99, 5, .inl xs))) (h69 : h[69]? = some (la fun _ => 0)) (h70 : h[70]? = some (da fun _ => 0)) : lB nm 28 [some (.ref 0), some (.ref 1), some (.ref 53), some (.ref 69), some (.ref 70), some (.int (nI 0)), none, none, none] [] h 3 406 := by
  refine lw_sub (rows := r_LW_law_0) ok_LW_law_0 ?_
  refine am_B.run (hp := false) (sp := []) 200 rfl ?_
  refine am_B.alen rfl rfl h0 (Or.inr rfl) ?_
  refine am_B.run (hp := false) (sp := []) 200 rfl ?_
  refine am_B.icmp_gt rfl rfl (fun z => absurd z (show ¬ nI 5 - nI 5 < nI 0 by decide)) (fun _ => ?_)
  refine am_B.run (hp := false) (sp := []) 200 rfl ?_
  refine am_B.ald rfl h0 (vp_nI (n := 5) (show 0 < 5 by decide) (Nat.le_of_ble_eq_true rfl)) rfl ?_
  rw [nI_clamp (show 0 < 2 ^ 31 by decide)]
  refine am_B.run (hp := false) (sp := [44]) 200 rfl ?_
  exact lw_up (lw_switch nm xs h X M h0 h69 h70)
set_option maxRecDepth 100000 in
set_option maxHeartbeats 4000000 in
theorem lw_loop4 (nm : String) (L : Nat) (xs : Nat → Int32) (h : am_H) (h0 : h[0]? = some (.inl (99, L, .inl xs))) (hL : L < 5) : lB nm 28 [some (.ref 0), some (.ref 1), some (.ref 53), some (.ref 69), some (.ref 70), some (.int (nI 0)), none, none, none] [] h 3 406 := by
  refine lw_sub (rows := r_LW_law_0 ++ r_LW_law_27) (am_all_app ok_LW_law_0 ok_LW_law_27) ?_
  refine am_B.run (hp := false) (sp := []) 200 rfl ?_
  refine am_B.alen rfl rfl h0 (Or.inr rfl) ?_
  refine am_B.run (hp := false) (sp := []) 200 rfl ?_
  have hd : nI L - nI 5 < nI 0 := by
    obtain rfl | rfl | rfl | rfl | rfl : L = 0 ∨ L = 1 ∨ L = 2 ∨ L = 3 ∨ L = 4 := by omega
    all_goals decide
  refine am_B.icmp_gt rfl rfl (fun _ => ?_) (fun z => absurd hd z)
  refine am_B.run (hp := false) (sp := []) 200 rfl ?_
  exact lw_up (lB.done rfl rfl)
