/-! THE START: the tables' classes, the arrays, the world before the law; then the claim -/
set_option maxRecDepth 100000 in
theorem wi_0 : Jvm.Cond.instantiable "TraceAligner" 9 ∈ am_big := List.mem_of_getElem? (i := 21) rfl
set_option maxRecDepth 100000 in
theorem wi_1 : Jvm.Cond.instantiable "TraceAligner$Net" 8 ∈ am_big := List.mem_of_getElem? (i := 29) rfl
set_option maxRecDepth 100000 in
theorem wi_2 : Jvm.Cond.instantiable "TraceAligner$MarkingGraph" 7 ∈ am_big := List.mem_of_getElem? (i := 64) rfl
set_option maxRecDepth 100000 in
theorem wi_3 : Jvm.Cond.instantiable "TraceAligner$PathFinder" 5 ∈ am_big := List.mem_of_getElem? (i := 93) rfl
set_option maxRecDepth 100000 in
theorem wi_4 : Jvm.Cond.instantiable "TraceAligner$Trace" 8 ∈ am_big := List.mem_of_getElem? (i := 110) rfl
set_option maxRecDepth 100000 in
theorem wo_A : Jvm.Cond.arrayOver (.array .int) ∈ lw_tbl := List.mem_of_getElem? (i := 122) rfl
set_option maxRecDepth 100000 in
theorem wo_T : Jvm.Cond.arrayOver (.object "TraceAligner$Trace") ∈ lw_tbl := List.mem_of_getElem? (i := 140) rfl
set_option maxRecDepth 100000 in
theorem wn_0 : Jvm.Cond.methodLinkNest "TraceAligner" 9 ⟨"TraceAligner$Net", "<init>", "()V"⟩ "TraceAligner" ∈ lw_tbl := List.mem_of_getElem? (i := 35) rfl
set_option maxRecDepth 100000 in
theorem wn_1 : Jvm.Cond.methodLinkNest "TraceAligner" 53 ⟨"TraceAligner$Trace", "<init>", "()V"⟩ "TraceAligner" ∈ lw_tbl := List.mem_of_getElem? (i := 142) rfl
set_option maxRecDepth 100000 in
theorem wn_2 : Jvm.Cond.methodLinkNest "TraceAligner$Net" 37 ⟨"TraceAligner", "isIn", "(II)Z"⟩ "TraceAligner" ∈ lw_tbl := List.mem_of_getElem? (i := 232) rfl
set_option maxRecDepth 100000 in
theorem wn_3 : Jvm.Cond.methodLinkNest "TraceAligner$Net" 41 ⟨"TraceAligner", "tokensIn", "(II)I"⟩ "TraceAligner" ∈ lw_tbl := List.mem_of_getElem? (i := 235) rfl
set_option maxRecDepth 100000 in
theorem wn_4 : Jvm.Cond.methodLinkNest "TraceAligner$PathFinder" 127 ⟨"TraceAligner", "packMove", "(IIII)I"⟩ "TraceAligner" ∈ lw_tbl := List.mem_of_getElem? (i := 474) rfl
set_option maxRecDepth 100000 in
theorem wn_5 : Jvm.Cond.methodLinkNest "TraceAligner$PathFinder" 118 ⟨"TraceAligner", "transitionOf", "(I)I"⟩ "TraceAligner" ∈ lw_tbl := List.mem_of_getElem? (i := 481) rfl
set_option maxRecDepth 100000 in
theorem wn_6 : Jvm.Cond.methodLinkNest "TraceAligner$PathFinder" 124 ⟨"TraceAligner", "labelOf", "(I)I"⟩ "TraceAligner" ∈ lw_tbl := List.mem_of_getElem? (i := 484) rfl
theorem wn_all : ∀ q ∈ am_nst, Jvm.Cond.methodLinkNest q.1 q.2.1 q.2.2.1 q.2.2.2 ∈ lw_tbl := List.forall_mem_cons.mpr ⟨wn_0, List.forall_mem_cons.mpr ⟨wn_1, List.forall_mem_cons.mpr ⟨wn_2, List.forall_mem_cons.mpr ⟨wn_3, List.forall_mem_cons.mpr ⟨wn_4, List.forall_mem_cons.mpr ⟨wn_5, List.forall_mem_cons.mpr ⟨wn_6, fun _ h => absurd h List.not_mem_nil⟩⟩⟩⟩⟩⟩⟩
theorem arr_of {s : State} {c : ClassId} {k : Class} {comp : ClassId} {ty : FieldType} (h1 : s.vm.classes[c]? = some k) (h2 : k.kind = .array comp ty) : ArrOfT s c ty := fun n z => ⟨(fun _ h => by cases h), k, h1, comp, h2⟩
theorem am_K_start {s : State} {args : Array Value} (hts : ∀ w ∈ lw_tbl, w.before args s = true) : ∃ (D : va_G) (cA : Nat → ClassId), am_K D am_cl cA am_tys s := by
  have hbig : ∀ w ∈ am_big, w.before args s = true := fun w hw => hts w (am_big_in w hw)
  have cls : ∀ (c : Nat) (q : vw_C), am_cl[c]? = some q → Jvm.Cond.instantiable q.1 q.2.2 ∈ am_big → ∃ (cC : ClassId) (iS : Nat → Nat), u_Kn s q.1 q.2.1 q.2.2 cC iS := fun c q hq hi =>
    u_known hbig (am_cl_ok q (List.mem_of_getElem? hq)).1 (hbig _ hi)
  obtain ⟨c0, i0, k0⟩ := cls 0 _ rfl wi_0
  obtain ⟨c1, i1, k1⟩ := cls 1 _ rfl wi_1
  obtain ⟨c2, i2, k2⟩ := cls 2 _ rfl wi_2
  obtain ⟨c3, i3, k3⟩ := cls 3 _ rfl wi_3
  obtain ⟨c4, i4, k4⟩ := cls 4 _ rfl wi_4
  obtain ⟨aI, kI, compI, hI1, hI2, hI3⟩ := Cond.arrayClass_spec (hbig _ aw_int)
  obtain ⟨compT, aT, kT, hT1, -, hT3, hT4, hT5⟩ := Cond.arrayOver_spec (hts _ wo_T)
  have hA0 : (Jvm.Cond.arrayOver (.array .int)).before #[] s = true := hts _ wo_A
  obtain ⟨compA, aA, kA, hA1, -, hA3, hA4, hA5⟩ := am_AOA_spec hA0
  refine ⟨(fun c => match c with | 0 => c0 | 1 => c1 | 2 => c2 | 3 => c3 | _ => c4, fun c => match c with | 0 => i0 | 1 => i1 | 2 => i2 | 3 => i3 | _ => i4), fun t => match t with | 0 => aI | 4 => aT | _ => aA, ?_, ?_, fun q hq => va_Nw.of rfl (hts _ (wn_all q hq)), va_AO.of (hts _ wo_T), hA0⟩
  · intro c q hq
    match c, hq with
    | 0, hq => cases hq; exact k0
    | 1, hq => cases hq; exact k1
    | 2, hq => cases hq; exact k2
    | 3, hq => cases hq; exact k3
    | 4, hq => cases hq; exact k4
    | c + 5, hq => simp at hq
  · intro t ty ht ho
    match t, ht, ho with
    | 0, ht, _ => cases ht; exact ⟨arr_of hI2 hI3, hI1⟩
    | 1, _, ho => exact absurd ho (by decide)
    | 2, _, ho => exact absurd ho (by decide)
    | 3, _, ho => exact absurd ho (by decide)
    | 4, ht, _ => cases ht; exact ⟨arr_of hT3 hT4, kT, compT, hT3, hT4, hT1, hT5⟩
    | 5, ht, _ => cases ht; exact ⟨arr_of hA3 hA4, hA5⟩
    | t + 6, ht, _ => simp [am_tys] at ht
set_option maxHeartbeats 4000000 in
theorem whole_start {p : Program} {e : Env} {s : State} {m : MethodId} {below : List Frame} {meth : Method} {c : Code} (l : Launch) (hflags : l.flags = flags0) {b L : Nat} {xs : Nat → Int32} (hL : L ≤ 260) (C0 : lw_At p s m meth c b L xs) : W p l e room_1 s m #[Value.ref b] below meth c s.heap [] 0 0 (lw_Z below #[Value.ref b] s) (entryFrame m ([Value.ref b] : List Value).toArray 14) := by
  obtain ⟨hx, hb, hr, hml, hown, hts, hX, hbl, hlocks, hgv⟩ := id C0
  obtain ⟨D, cA, hK⟩ := am_K_start hts
  have hbig : ∀ w ∈ am_big, w.before #[Value.ref b] s = true := fun w hw => hts w (am_big_in w hw)
  have hR : am_R D am_cl cA b s.heap.size s [.inl (99, L, .inl xs)] s.heap := by
    refine ⟨hbl, rfl, ⟨(L, .inl xs), rfl⟩, fun k c hk => ?_⟩
    match k, hk with
    | 0, hk =>
      cases hk
      obtain ⟨scr, h1, h2, h3, h4, h5⟩ := hX
      exact ⟨fun _ => ⟨scr, h1, h2, h3, h4, xs, rfl, h5⟩, fun h => absurd rfl h⟩
    | k + 1, hk => simp at hk
  have K := lw_law (L := L) (xs := xs) meth.name rfl (by omega) (e_LWn meth.name) l D cA b s.heap.size p e s m #[.ref b] below meth c ⟨hx, hb, hml, hr, hown, hbig, hK, hlocks, rfl⟩ s.heap [] 0 0 _ hR va_S.rf (Nat.le_of_ble_eq_true rfl) (Nat.le_of_ble_eq_true rfl) (am_entry (vs := [.ref 0]) (n := 14) (Nat.le_of_ble_eq_true rfl))
  rw [lg_entry_eq]
  intro T hT X
  obtain ⟨t, a1, b1⟩ := K T hT X
  exact ⟨t, a1, b1 (Nat.le_refl _)⟩
-- ===== YOUR PART ENDS =====
set_option maxHeartbeats 4000000 in
theorem lw_walk (l : Launch) (hflags : l.flags = flags0) (b : Addr) (xs : List Int32) : MetFree l x (headSpec (Jvm.Cond.code x code maxLocals ret :: tables_1) room_1) (lw_P b xs) (fun _ _ _ _ _ => True) lw_Q := by
  refine MetFree.of_bodyS (code := code) (maxLocals := maxLocals) (ret := ret) (by decide) ?_ ?_
  · intro args s m h hn
    obtain ⟨meth, c, h1, h2, h3, h4, h5, h6, -, -⟩ := Cond.code_spec hn (atoms_spec (ws := Jvm.Cond.code x code maxLocals ret :: tables_1) h _ List.mem_cons_self)
    exact ⟨meth, c, h1, h2, h3, h4, h5, h6⟩
  · intro p e s m args below meth c s₁ B hml0 hP _
    obtain ⟨rfl, hx, hbd, hgv⟩ := hP
    obtain ⟨scr, harrAt, hlist, hof, hsmall⟩ := hx
    obtain ⟨hcb, hkn, -, -⟩ := State.arrayAt?_spec harrAt
    have hown : s.vm.findClass R_law = some m.cls := findClass_of_methodNamed B.named
    have hts0 : ∀ c ∈ (Jvm.Cond.code x code maxLocals ret :: tables_1), c.before #[Value.ref b] s = true := atoms_spec (ws := Jvm.Cond.code x code maxLocals ret :: tables_1) B.pre
    have hts : ∀ w ∈ lw_tbl, w.before #[Value.ref b] s = true := k2_hts_sels lw_privs (fun w hw => hts0 w (List.mem_cons_of_mem _ hw)) lw_privs_ok
    have hml : c.maxLocals = 14 := B.maxLocals_eq (hts0 _ List.mem_cons_self)
    have X₀ : Stand p l e room_1 s m #[Value.ref b] below meth c s₁ [] 0 0 := Stand.of_body B
    have hh0 : s₁.heap = s.heap := by rw [B.state]; rfl
    have hsz : scr.slots.size = xs.length := by rw [← Array.length_toList, hlist, List.length_map]
    have hval : ∀ j : Nat, j < xs.length → scr.slots[j]? = some (.int (xs.getD j 0)) := fun j hj => by
      rw [← Array.getElem?_toList, hlist]
      simp [hj]
    have hbl : b < s.heap.size := (Array.getElem?_eq_some_iff.mp hcb).1
    have hX : va_X b xs.length (fun j => xs.getD j 0) s s.heap := ⟨scr, hcb, hof, hkn, hsz, hval⟩
    have K : W p l e room_1 s m #[Value.ref b] below meth c s₁.heap [] 0 0 (lw_Z below #[Value.ref b] s) (entryFrame m ([Value.ref b] : List Value).toArray 14) := by
      rw [hh0]
      exact whole_start l hflags hbd ⟨B.exec, B.bytes, B.returns, hml, hown, hts, hX, hbl, B.notSynchronized, hgv⟩
    obtain ⟨t, a1, o, b1, b2, b3⟩ := K s₁ rfl X₀
    exact ⟨t, o, a1, b1, b2, b3⟩
theorem lw_pre_spec {args : Array Value} {s : State} (h : (Jvm.Cond.and given_1 narrow_1).before args s = true) (hr : rest_1_c.before args s = true) : ∃ (b : Addr) (xs : List Int32), lw_P b xs args s := by
  have hs := flat_of_before _ h
  have hq := flat_of_before _ hr
  have hc : (Cond.count 1).before args s = true := hs _ (by decide +kernel)
  have harr : (Cond.arrayOf (.arg 0) .int).before args s = true := hs _ (by decide +kernel)
  have hle : (Cond.le (.length (.arg 0)) (.int 260)).before args s = true := hs _ (by decide +kernel)
  have hlen : (Cond.isInt (.length (.arg 0))).before args s = true := hq _ (by decide +kernel)
  have hall : (Cond.all (.arg 0) (.isInt (.elem (.arg 0) (.index 0)))).before args s = true := hq _ (by decide +kernel)
  obtain ⟨b, xs, hb, hx⟩ := State.ints_of_pre rfl harr hlen hall
  have hsm : xs.length < 2 ^ 31 := hx.choose_spec.2.2.2
  have hev : (Term.length (.arg 0)).eval args s none [] s = some (.int xs.length.toInt32) := hx.length_eval hb
  have hv := Cond.le_ints hev (show (Term.int 260).eval args s none [] s = some (.int 260) from rfl)
  have hd : xs.length.toInt32 ≤ 260 := by
    simpa [Cond.before, Cond.holds, hv] using hle
  have hN : xs.length ≤ 260 := (Int32.ofNat_le_ofNat hsm (by decide)).mp (show Int32.ofNat xs.length ≤ Int32.ofNat 260 from hd)
  exact ⟨b, xs, Cond.one_arg hc (show args[0]? = some (.ref b) from hb), hx, hN, h⟩
theorem lw_comes (l : Launch) (hflags : l.flags = flags0) : Comes l x (Jvm.Cond.code x code maxLocals ret :: tables_1) room_1 (fun tb e args s => Calls_1 tb e args s ∧ rest_1 tb e args s ∧ Pre_1 tb e args s)
    (fun _ _ args s o t => lw_Q args s o t) := by
  intro p e ha hc hk s m args below hf hfit hheap happ hpre
  obtain ⟨b, xs, hP⟩ := lw_pre_spec hpre.2.2 hpre.2.1
  obtain ⟨k, o, h1, h2, h3, hQ⟩ := lw_walk l hflags b xs p e ha hc hk s m args below hf ((Spec.applies_iff_loose hf).mp happ).1 hP trivial
  exact ⟨k, o, h1, h2, h3, hQ⟩
theorem lw_frame {s t : State} {o : Outcome} {args : Array Value} (h : Framed s o t [] 600104 7301314) :
    Framed s o t (fieldLocs frame_1_writes args s ++ arrayLocs frame_1_arrays args s ++ staticLocs frame_1_statics s) 600104 7301314 := h
theorem lw_limb (L : Cond) (hL : ∀ (args : Array Value) (s t : State), L.after args s (.returned (some (.int 1))) t = true) :
    ArmFor flags0 classFile x code maxLocals ret World_1 tables_1 room_1 Calls_1 rest_1 Pre_1
      (fun tb e a s o t => postC L tb e a s o t ∧ Framed s o t (fieldLocs frame_1_writes a s ++ arrayLocs frame_1_arrays a s ++ staticLocs frame_1_statics s) 600104 7301314) := by
  intro l hflags _ _ p e ha hc hk s m args below hf hfit hheap happ hpre
  obtain ⟨k, o, h1, h2, h3, rfl, hF⟩ := lw_comes l hflags p e ha hc hk s m args below hf hfit hheap happ hpre
  exact ⟨k, _, h1, h2, h3, hL args s _, lw_frame hF⟩
theorem i_vc : Claimed_1_1 ∧ Claimed_1_2 := ⟨lw_limb limb_1_1 (fun args s t => by simp [limb_1_1, Cond.after, Cond.holds, Cond.value]), lw_limb limb_1_2 (fun args s t => Cond.after_iff.mpr (by
  first | (rw [show limb_1_2 = Cond.eq .result (.int 1) from rfl, Cond.eq_ints (x := 1) (y := 1) rfl rfl]; simp; done) | (simp [limb_1_2, Cond.value, Term.eval]; done)))⟩
