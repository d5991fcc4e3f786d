/-! THE LAW: each place of its switch -/
theorem lwt_0 (nm : String) (xs : Nat → Int32) (h : am_H) (X : xF h) (M : mF h) (h0 : h[0]? = some (.inl (99, 5, .inl xs))) (h69 : h[69]? = some (la fun _ => 0)) (h70 : h[70]? = some (da fun _ => 0)) : lB nm 176 [some (.ref 0), some (.ref 1), some (.ref 53), some (.ref 69), some (.ref 70), some (.int (nI 0)), none, none, none] [] h 3 406 := by
  exact lc_addPlace nm xs h X M h0 h69 h70
theorem lwt_1 (nm : String) (xs : Nat → Int32) (h : am_H) (X : xF h) (M : mF h) (h0 : h[0]? = some (.inl (99, 5, .inl xs))) (h69 : h[69]? = some (la fun _ => 0)) (h70 : h[70]? = some (da fun _ => 0)) : lB nm 220 [some (.ref 0), some (.ref 1), some (.ref 53), some (.ref 69), some (.ref 70), some (.int (nI 0)), none, none, none] [] h 3 406 := by
  by_cases hm : xs 1 = -1
  · exact lc_addTransitionN nm xs h X M h0 h69 h70 hm
  rcases xbad_or (xs 1) 6 with hx | ⟨l, hl, e⟩
  · exact lc_addTransitionB nm xs h X M h0 h69 h70 hx hm
  · exact lc_addTransitionL nm xs h X M h0 h69 h70 l hl e
theorem lwt_2 (nm : String) (xs : Nat → Int32) (h : am_H) (X : xF h) (M : mF h) (h0 : h[0]? = some (.inl (99, 5, .inl xs))) (h69 : h[69]? = some (la fun _ => 0)) (h70 : h[70]? = some (da fun _ => 0)) : lB nm 276 [some (.ref 0), some (.ref 1), some (.ref 53), some (.ref 69), some (.ref 70), some (.int (nI 0)), none, none, none] [] h 3 406 := by
  by_cases q3 : xs 3 = 0 <;> by_cases q4 : xs 4 = 0
  · exact lc_link00 nm xs h X M h0 h69 h70 q3 q4
  · exact lc_link01 nm xs h X M h0 h69 h70 q3 q4
  · exact lc_link10 nm xs h X M h0 h69 h70 q3 q4
  · exact lc_link11 nm xs h X M h0 h69 h70 q3 q4
theorem lwt_3 (nm : String) (xs : Nat → Int32) (h : am_H) (X : xF h) (M : mF h) (h0 : h[0]? = some (.inl (99, 5, .inl xs))) (h69 : h[69]? = some (la fun _ => 0)) (h70 : h[70]? = some (da fun _ => 0)) : lB nm 407 [some (.ref 0), some (.ref 1), some (.ref 53), some (.ref 69), some (.ref 70), some (.int (nI 0)), none, none, none] [] h 3 406 := by
  by_cases q3 : xs 3 = 0
  · exact lc_setTokens0 nm xs h X M h0 h69 h70 q3
  · exact lc_setTokens1 nm xs h X M h0 h69 h70 q3
theorem lwt_4 (nm : String) (xs : Nat → Int32) (h : am_H) (X : xF h) (M : mF h) (h0 : h[0]? = some (.inl (99, 5, .inl xs))) (h69 : h[69]? = some (la fun _ => 0)) (h70 : h[70]? = some (da fun _ => 0)) : lB nm 503 [some (.ref 0), some (.ref 1), some (.ref 53), some (.ref 69), some (.ref 70), some (.int (nI 0)), none, none, none] [] h 3 406 := by
  rcases xbad_or (xs 1) 3 with hx | ⟨l, hl, e⟩
  · exact lc_countB nm xs h X M h0 h69 h70 hx
  · obtain rfl | rfl | rfl : l = 0 ∨ l = 1 ∨ l = 2 := by omega
    · exact lc_count0 nm xs h X M h0 h69 h70 e
    · exact lc_count1 nm xs h X M h0 h69 h70 e
    · exact lc_count2 nm xs h X M h0 h69 h70 e
theorem lwt_5 (nm : String) (xs : Nat → Int32) (h : am_H) (X : xF h) (M : mF h) (h0 : h[0]? = some (.inl (99, 5, .inl xs))) (h69 : h[69]? = some (la fun _ => 0)) (h70 : h[70]? = some (da fun _ => 0)) : lB nm 559 [some (.ref 0), some (.ref 1), some (.ref 53), some (.ref 69), some (.ref 70), some (.int (nI 0)), none, none, none] [] h 3 406 := by
  exact lc_label nm xs h X M h0 h69 h70
theorem lwt_6 (nm : String) (xs : Nat → Int32) (h : am_H) (X : xF h) (M : mF h) (h0 : h[0]? = some (.inl (99, 5, .inl xs))) (h69 : h[69]? = some (la fun _ => 0)) (h70 : h[70]? = some (da fun _ => 0)) : lB nm 615 [some (.ref 0), some (.ref 1), some (.ref 53), some (.ref 69), some (.ref 70), some (.int (nI 0)), none, none, none] [] h 3 406 := by
  exact lc_markings nm xs h X M h0
theorem lwt_7 (nm : String) (xs : Nat → Int32) (h : am_H) (X : xF h) (M : mF h) (h0 : h[0]? = some (.inl (99, 5, .inl xs))) (h69 : h[69]? = some (la fun _ => 0)) (h70 : h[70]? = some (da fun _ => 0)) : lB nm 628 [some (.ref 0), some (.ref 1), some (.ref 53), some (.ref 69), some (.ref 70), some (.int (nI 0)), none, none, none] [] h 3 406 := by
  rcases xbad_or (xs 1) 1 with hx | ⟨l, hl, e⟩
  · exact lc_tokensA nm xs h X M h0 h69 h70 hx
  · obtain rfl : l = 0 := by omega
    exact lc_tokensB nm xs h X M h0 h69 h70 e
theorem lwt_8 (nm : String) (xs : Nat → Int32) (h : am_H) (X : xF h) (M : mF h) (h0 : h[0]? = some (.inl (99, 5, .inl xs))) (h69 : h[69]? = some (la fun _ => 0)) (h70 : h[70]? = some (da fun _ => 0)) : lB nm 696 [some (.ref 0), some (.ref 1), some (.ref 53), some (.ref 69), some (.ref 70), some (.int (nI 0)), none, none, none] [] h 3 406 := by
  rcases xbad_or (xs 1) 1 with hx | ⟨l, hl, e⟩
  · exact lc_enabledB nm xs h X M h0 h69 h70 hx
  · obtain rfl : l = 0 := by omega
    exact lc_enabled nm xs h X M h0 h69 h70 e
theorem lwt_9 (nm : String) (xs : Nat → Int32) (h : am_H) (X : xF h) (M : mF h) (h0 : h[0]? = some (.inl (99, 5, .inl xs))) (h69 : h[69]? = some (la fun _ => 0)) (h70 : h[70]? = some (da fun _ => 0)) : lB nm 752 [some (.ref 0), some (.ref 1), some (.ref 53), some (.ref 69), some (.ref 70), some (.int (nI 0)), none, none, none] [] h 3 406 := by
  rcases xbad_or (xs 1) 1 with hx | ⟨l, hl, e⟩
  · exact lc_nextA nm xs h X M h0 h69 h70 hx
  · obtain rfl : l = 0 := by omega
    exact lc_nextB nm xs h X M h0 h69 h70 e
theorem lwt_10 (nm : String) (xs : Nat → Int32) (h : am_H) (X : xF h) (M : mF h) (h0 : h[0]? = some (.inl (99, 5, .inl xs))) (h69 : h[69]? = some (la fun _ => 0)) (h70 : h[70]? = some (da fun _ => 0)) : lB nm 820 [some (.ref 0), some (.ref 1), some (.ref 53), some (.ref 69), some (.ref 70), some (.int (nI 0)), none, none, none] [] h 3 406 := by
  exact lc_last nm xs h X M h0 h69 h70
theorem lwt_11 (nm : String) (xs : Nat → Int32) (h : am_H) (X : xF h) (M : mF h) (h0 : h[0]? = some (.inl (99, 5, .inl xs))) (h69 : h[69]? = some (la fun _ => 0)) (h70 : h[70]? = some (da fun _ => 0)) : lB nm 864 [some (.ref 0), some (.ref 1), some (.ref 53), some (.ref 69), some (.ref 70), some (.int (nI 0)), none, none, none] [] h 3 406 := by
  exact lc_dead nm xs h X M h0 h69 h70
theorem lwt_12 (nm : String) (xs : Nat → Int32) (h : am_H) (X : xF h) (M : mF h) (h0 : h[0]? = some (.inl (99, 5, .inl xs))) (h69 : h[69]? = some (la fun _ => 0)) (h70 : h[70]? = some (da fun _ => 0)) : lB nm 908 [some (.ref 0), some (.ref 1), some (.ref 53), some (.ref 69), some (.ref 70), some (.int (nI 0)), none, none, none] [] h 3 406 := by
  exact lc_live nm xs h X M h0 h69 h70
theorem lwt_13 (nm : String) (xs : Nat → Int32) (h : am_H) (X : xF h) (M : mF h) (h0 : h[0]? = some (.inl (99, 5, .inl xs))) (h69 : h[69]? = some (la fun _ => 0)) (h70 : h[70]? = some (da fun _ => 0)) : lB nm 952 [some (.ref 0), some (.ref 1), some (.ref 53), some (.ref 69), some (.ref 70), some (.int (nI 0)), none, none, none] [] h 3 406 := by
  rcases xbad_or (xs 1) 1 with hx | ⟨l, hl, e⟩
  · exact lc_awayB nm xs h X M h0 h69 h70 hx
  · obtain rfl : l = 0 := by omega
    exact lc_away nm xs h X M h0 h69 h70 e
theorem lwt_14 (nm : String) (xs : Nat → Int32) (h : am_H) (X : xF h) (M : mF h) (h0 : h[0]? = some (.inl (99, 5, .inl xs))) (h69 : h[69]? = some (la fun _ => 0)) (h70 : h[70]? = some (da fun _ => 0)) : lB nm 1008 [some (.ref 0), some (.ref 1), some (.ref 53), some (.ref 69), some (.ref 70), some (.int (nI 0)), none, none, none] [] h 3 406 := by
  rcases xbad_or (xs 1) 6 with hx | ⟨l, hl, e⟩
  · exact lc_eventB nm xs h X M h0 h69 h70 hx
  · exact lc_event nm xs h X M h0 h69 h70 l hl e
theorem lwt_15 (nm : String) (xs : Nat → Int32) (h : am_H) (X : xF h) (M : mF h) (h0 : h[0]? = some (.inl (99, 5, .inl xs))) (h69 : h[69]? = some (la fun _ => 0)) (h70 : h[70]? = some (da fun _ => 0)) : lB nm 1064 [some (.ref 0), some (.ref 1), some (.ref 53), some (.ref 69), some (.ref 70), some (.int (nI 0)), none, none, none] [] h 3 406 := by
  rcases xbad_or (xs 1) 100 with hx | ⟨l, hl, e⟩
  · exact lc_storeB nm xs h X M h0 h69 h70 hx
  · exact lc_store nm xs h X M h0 h69 h70 l hl e
theorem lwt_16 (nm : String) (xs : Nat → Int32) (h : am_H) (X : xF h) (M : mF h) (h0 : h[0]? = some (.inl (99, 5, .inl xs))) (h69 : h[69]? = some (la fun _ => 0)) (h70 : h[70]? = some (da fun _ => 0)) : lB nm 1120 [some (.ref 0), some (.ref 1), some (.ref 53), some (.ref 69), some (.ref 70), some (.int (nI 0)), none, none, none] [] h 3 406 := by
  exact lc_dropTrace nm xs h X M h0 h69 h70
theorem lwt_17 (nm : String) (xs : Nat → Int32) (h : am_H) (X : xF h) (M : mF h) (h0 : h[0]? = some (.inl (99, 5, .inl xs))) (h69 : h[69]? = some (la fun _ => 0)) (h70 : h[70]? = some (da fun _ => 0)) : lB nm 1164 [some (.ref 0), some (.ref 1), some (.ref 53), some (.ref 69), some (.ref 70), some (.int (nI 0)), none, none, none] [] h 3 406 := by
  exact lc_length nm xs h X M h0 h69 h70
theorem lwt_18 (nm : String) (xs : Nat → Int32) (h : am_H) (X : xF h) (M : mF h) (h0 : h[0]? = some (.inl (99, 5, .inl xs))) (h69 : h[69]? = some (la fun _ => 0)) (h70 : h[70]? = some (da fun _ => 0)) : lB nm 1220 [some (.ref 0), some (.ref 1), some (.ref 53), some (.ref 69), some (.ref 70), some (.int (nI 0)), none, none, none] [] h 3 406 := by
  rcases xbad_or (xs 1) 6 with hx | ⟨l, hl, e⟩
  · exact lc_setLabelCostA nm xs h X M h0 h69 h70 hx
  · rcases xbad_or (xs 2) 10 with hx | ⟨c, hc, e2⟩
    · exact lc_setLabelCostB nm xs h X M h0 h69 h70 l hl hx e
    · exact lc_setLabelCost nm xs h X M h0 h69 h70 l hl c hc e e2
theorem lwt_19 (nm : String) (xs : Nat → Int32) (h : am_H) (X : xF h) (M : mF h) (h0 : h[0]? = some (.inl (99, 5, .inl xs))) (h69 : h[69]? = some (la fun _ => 0)) (h70 : h[70]? = some (da fun _ => 0)) : lB nm 1288 [some (.ref 0), some (.ref 1), some (.ref 53), some (.ref 69), some (.ref 70), some (.int (nI 0)), none, none, none] [] h 3 406 := by
  exact lc_setCost nm xs h X M h0 h69 h70
theorem lwt_20 (nm : String) (xs : Nat → Int32) (h : am_H) (X : xF h) (M : mF h) (h0 : h[0]? = some (.inl (99, 5, .inl xs))) (h69 : h[69]? = some (la fun _ => 0)) (h70 : h[70]? = some (da fun _ => 0)) : lB nm 1356 [some (.ref 0), some (.ref 1), some (.ref 53), some (.ref 69), some (.ref 70), some (.int (nI 0)), none, none, none] [] h 3 406 := by
  exact lc_cost nm xs h X M h0 h69 h70
theorem lwt_21 (nm : String) (xs : Nat → Int32) (h : am_H) (X : xF h) (M : mF h) (h0 : h[0]? = some (.inl (99, 5, .inl xs))) (h69 : h[69]? = some (la fun _ => 0)) (h70 : h[70]? = some (da fun _ => 0)) : lB nm 1412 [some (.ref 0), some (.ref 1), some (.ref 53), some (.ref 69), some (.ref 70), some (.int (nI 0)), none, none, none] [] h 3 406 := by
  exact lc_moves nm xs h X M h0 h69 h70
theorem lwt_22 (nm : String) (xs : Nat → Int32) (h : am_H) (X : xF h) (M : mF h) (h0 : h[0]? = some (.inl (99, 5, .inl xs))) (h69 : h[69]? = some (la fun _ => 0)) (h70 : h[70]? = some (da fun _ => 0)) : lB nm 1468 [some (.ref 0), some (.ref 1), some (.ref 53), some (.ref 69), some (.ref 70), some (.int (nI 0)), none, none, none] [] h 3 406 := by
  exact lc_move nm xs h X M h0 h69 h70
theorem lwt_23 (nm : String) (xs : Nat → Int32) (h : am_H) (X : xF h) (M : mF h) (h0 : h[0]? = some (.inl (99, 5, .inl xs))) (h69 : h[69]? = some (la fun _ => 0)) (h70 : h[70]? = some (da fun _ => 0)) : lB nm 1548 [some (.ref 0), some (.ref 1), some (.ref 53), some (.ref 69), some (.ref 70), some (.int (nI 0)), none, none, none] [] h 3 406 := by
  exact lc_worst nm xs h X M h0 h69 h70
theorem lwt_24 (nm : String) (xs : Nat → Int32) (h : am_H) (X : xF h) (M : mF h) (h0 : h[0]? = some (.inl (99, 5, .inl xs))) (h69 : h[69]? = some (la fun _ => 0)) (h70 : h[70]? = some (da fun _ => 0)) : lB nm 1604 [some (.ref 0), some (.ref 1), some (.ref 53), some (.ref 69), some (.ref 70), some (.int (nI 0)), none, none, none] [] h 3 406 := by
  exact lc_fitness nm xs h X M h0 h69 h70
theorem lwt_25 (nm : String) (xs : Nat → Int32) (h : am_H) (X : xF h) (M : mF h) (h0 : h[0]? = some (.inl (99, 5, .inl xs))) (h69 : h[69]? = some (la fun _ => 0)) (h70 : h[70]? = some (da fun _ => 0)) : lB nm 1681 [some (.ref 0), some (.ref 1), some (.ref 53), some (.ref 69), some (.ref 70), some (.int (nI 0)), none, none, none] [] h 3 406 := by
  rcases xbad_or (xs 1) 3 with hx | ⟨k, hk, e⟩
  · exact lc_totalA nm xs h X M h0 h69 h70 hx
  · obtain rfl | rfl | rfl : k = 0 ∨ k = 1 ∨ k = 2 := by omega
    · exact lc_totalT0 nm xs h X M h0 h69 h70 e
    · rcases xbad_or (xs 2) 6 with hx | ⟨l, hl, e2⟩
      · exact lc_totalL nm xs h X M h0 h69 h70 hx e
      · exact lc_total nm xs h X M h0 h69 h70 l hl e e2
    · exact lc_totalT2 nm xs h X M h0 h69 h70 e
theorem lwt_26 (nm : String) (xs : Nat → Int32) (h : am_H) (X : xF h) (M : mF h) (h0 : h[0]? = some (.inl (99, 5, .inl xs))) (h69 : h[69]? = some (la fun _ => 0)) (h70 : h[70]? = some (da fun _ => 0)) : lB nm 1749 [some (.ref 0), some (.ref 1), some (.ref 53), some (.ref 69), some (.ref 70), some (.int (nI 0)), none, none, none] [] h 3 406 := by
  exact lc_allFitness nm xs h X M h0 h69 h70
theorem lwt_27 (nm : String) (xs : Nat → Int32) (h : am_H) (X : xF h) (M : mF h) (h0 : h[0]? = some (.inl (99, 5, .inl xs))) (h69 : h[69]? = some (la fun _ => 0)) (h70 : h[70]? = some (da fun _ => 0)) : lB nm 1814 [some (.ref 0), some (.ref 1), some (.ref 53), some (.ref 69), some (.ref 70), some (.int (nI 0)), none, none, none] [] h 3 406 := by
  exact lc_precision nm xs h X M h0 h69 h70
theorem lwt_28 (nm : String) (xs : Nat → Int32) (h : am_H) (X : xF h) (M : mF h) (h0 : h[0]? = some (.inl (99, 5, .inl xs))) (h69 : h[69]? = some (la fun _ => 0)) (h70 : h[70]? = some (da fun _ => 0)) : lB nm 1879 [some (.ref 0), some (.ref 1), some (.ref 53), some (.ref 69), some (.ref 70), some (.int (nI 0)), none, none, none] [] h 3 406 := by
  exact lc_digest nm xs h X M h0
