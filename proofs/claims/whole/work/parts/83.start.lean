/-! The law at its entry: classes, arrays, statics, strings. -/
theorem xNw.kn {own : String} {idx ci N : Nat} {fs : List Value} {args : Array Value} {s : State} (h : xNw own idx ci N fs) (hts : ∀ w ∈ xTAB, w.before args s = true) : ∃ y : ClassId × (Nat → Nat), ∀ q : vw_C, xcl[ci]? = some q → u_Kn s q.1 q.2.1 q.2.2 y.1 y.2 := by
  obtain ⟨Cn, T, h1, h2, -, h4, -⟩ := h
  obtain ⟨cC, iS, hk⟩ := u_known (ws := xTAB) (T := T) (N := N) hts h2 (hts _ h4)
  refine ⟨(cC, iS), fun q hq => ?_⟩
  rw [h1] at hq
  cases hq
  exact hk
theorem xkn {args : Array Value} {s : State} (hts : ∀ w ∈ xTAB, w.before args s = true) : ∃ D : va_G, ∀ (c : Nat) (q : vw_C), xcl[c]? = some q → u_Kn s q.1 q.2.1 q.2.2 (D.1 c) (D.2 c) := by
  have h : ∀ c : Nat, ∃ y : ClassId × (Nat → Nat), ∀ q : vw_C, xcl[c]? = some q → u_Kn s q.1 q.2.1 q.2.2 y.1 y.2 := by
    intro c
    match c with
    | 0 => exact nw_PW_30.kn hts
    | 1 => exact nw_PW_9.kn hts
    | 2 => exact nw_Rule_9.kn hts
    | 3 => exact nw_PW_49.kn hts
    | 4 => exact nw_PW_16.kn hts
    | 5 => exact nw_PW_42.kn hts
    | 6 => exact nw_PW_59.kn hts
    | 7 => exact nw_PW_68.kn hts
    | 8 => exact nw_PW_23.kn hts
    | 9 => exact nw_Law_8.kn hts
    | 10 => exact nw_Law_59.kn hts
    | c + 11 =>
      obtain ⟨y, -⟩ := nw_PW_30.kn hts
      refine ⟨y, fun q hq => ?_⟩
      rw [List.getElem?_eq_none (by show 11 ≤ c + 11; omega)] at hq
      cases hq
  obtain ⟨f, hf⟩ := Classical.axiomOfChoice h
  exact ⟨(fun c => (f c).1, fun c => (f c).2), hf⟩
theorem xarP {args : Array Value} {s : State} {ty : FieldType} (h : (Cond.arrayClass ty).before args s = true) : ∃ cA : ClassId, ArrOfT s cA ty ∧ s.vm.findClass ("[" ++ ty.toString) = some cA := by
  obtain ⟨cA, kA, comp, h1, h2, h3⟩ := Cond.arrayClass_spec h
  exact ⟨cA, fun n z => ⟨fun k h => (by cases h), kA, h2, comp, h3⟩, h1⟩
theorem xarO {args : Array Value} {s : State} {C : String} (h : (Cond.arrayOver (.object C)).before args s = true) : ∃ cA : ClassId, ArrOfT s cA (.object C) ∧ va_RA s cA (.object C) := by
  obtain ⟨comp, cA, kA, h1, h2, h3, h4, h5⟩ := Cond.arrayOver_spec h
  exact ⟨cA, fun N z => ⟨(fun k h => by cases h), kA, h3, comp, h4⟩, kA, comp, h3, h4, h1, h5⟩
theorem xstr {args : Array Value} {s : State} {own tx : String} {k : Nat} (h1 : (Cond.stringRef own k tx).before args s = true) (h2 : (Cond.exactly (.string own k) "java/lang/String").before args s = true) : ∃ a : Nat, vk_R own k tx a s := by
  obtain ⟨a, c, cell, kk, q1, -⟩ := Cond.exactly_spec h2
  exact ⟨a, vk_R.of h1 q1⟩
theorem ltb {w : Cond} (h : w ∈ tables_1) : w ∈ lw_tbl := List.mem_append_right _ h
theorem lt_ne : Cond.laysStatic "PairedWords$Writing" "NO_ENTRIES" "[I" ∈ lw_tbl := ltb (List.mem_of_getElem? (i := 377) (by decide +kernel))
theorem lt_us : Cond.laysStatic "java/lang/Throwable" "UNASSIGNED_STACK" "[Ljava/lang/StackTraceElement;" ∈ lw_tbl := ltb (List.mem_of_getElem? (i := 500) (by decide +kernel))
theorem lt_ss : Cond.laysStatic "java/lang/Throwable" "SUPPRESSED_SENTINEL" "Ljava/util/List;" ∈ lw_tbl := ltb (List.mem_of_getElem? (i := 502) (by decide +kernel))
theorem lt_iw : Cond.initialized "PairedWords$Writing" ∈ lw_tbl := ltb (List.mem_of_getElem? (i := 11) (by decide +kernel))
theorem lt_it : Cond.initialized "java/lang/Throwable" ∈ lw_tbl := ltb (List.mem_of_getElem? (i := 13) (by decide +kernel))
theorem lt_s83 : Cond.stringRef "PairedWords" 83 "no such sign" ∈ lw_tbl := ltb (List.mem_of_getElem? (i := 514) (by decide +kernel))
theorem lt_s92 : Cond.stringRef "PairedWords" 92 "both empty, or there already" ∈ lw_tbl := ltb (List.mem_of_getElem? (i := 545) (by decide +kernel))
theorem lt_s99 : Cond.stringRef "PairedWords" 99 "as many pairs as may be" ∈ lw_tbl := ltb (List.mem_of_getElem? (i := 559) (by decide +kernel))
theorem lt_s117 : Cond.stringRef "PairedWords" 117 "no such kind or pair" ∈ lw_tbl := ltb (List.mem_of_getElem? (i := 594) (by decide +kernel))
theorem lt_s120 : Cond.stringRef "PairedWords" 120 "as many rules as may be" ∈ lw_tbl := ltb (List.mem_of_getElem? (i := 599) (by decide +kernel))
theorem lt_s123 : Cond.stringRef "PairedWords" 123 "no such rule" ∈ lw_tbl := ltb (List.mem_of_getElem? (i := 611) (by decide +kernel))
theorem lt_s129 : Cond.stringRef "PairedWords" 129 "as many contexts as may be" ∈ lw_tbl := ltb (List.mem_of_getElem? (i := 616) (by decide +kernel))
theorem lt_s135 : Cond.stringRef "PairedWords" 135 "no such set of pairs" ∈ lw_tbl := ltb (List.mem_of_getElem? (i := 640) (by decide +kernel))
theorem lt_s137 : Cond.stringRef "PairedWords" 137 "no context" ∈ lw_tbl := ltb (List.mem_of_getElem? (i := 641) (by decide +kernel))
theorem lt_s154 : Cond.stringRef "PairedWords" 154 "as many elements as may be" ∈ lw_tbl := ltb (List.mem_of_getElem? (i := 647) (by decide +kernel))
theorem lt_s163 : Cond.stringRef "PairedWords" 163 "no such part" ∈ lw_tbl := ltb (List.mem_of_getElem? (i := 669) (by decide +kernel))
theorem lt_s166 : Cond.stringRef "PairedWords" 166 "as many entries as may be" ∈ lw_tbl := ltb (List.mem_of_getElem? (i := 674) (by decide +kernel))
theorem lt_s172 : Cond.stringRef "PairedWords" 172 "no such entry or sign" ∈ lw_tbl := ltb (List.mem_of_getElem? (i := 686) (by decide +kernel))
theorem lt_s182 : Cond.stringRef "PairedWords" 182 "as many signs as may be" ∈ lw_tbl := ltb (List.mem_of_getElem? (i := 692) (by decide +kernel))
theorem lt_s186 : Cond.stringRef "PairedWords" 186 "the line is full" ∈ lw_tbl := ltb (List.mem_of_getElem? (i := 701) (by decide +kernel))
theorem lt_s208 : Cond.stringRef "PairedWords" 208 "too many results" ∈ lw_tbl := ltb (List.mem_of_getElem? (i := 713) (by decide +kernel))
theorem lt_s221 : Cond.stringRef "PairedWords" 221 "no such result" ∈ lw_tbl := ltb (List.mem_of_getElem? (i := 769) (by decide +kernel))
theorem lt_s229 : Cond.stringRef "PairedWords" 229 "no such sign or entry" ∈ lw_tbl := ltb (List.mem_of_getElem? (i := 796) (by decide +kernel))
theorem lt_s238 : Cond.stringRef "PairedWords" 238 "as many samples as may be" ∈ lw_tbl := ltb (List.mem_of_getElem? (i := 812) (by decide +kernel))
theorem gv_na : Cond.arrayOf (.static "PairedWords$Writing" "NO_ENTRIES" "[I") .int ∈ flatC (Jvm.Cond.and given_1 narrow_1) := List.mem_of_getElem? (i := 5) (by decide +kernel)
theorem gv_nl : Cond.eq (.length (.static "PairedWords$Writing" "NO_ENTRIES" "[I")) (.int 0) ∈ flatC (Jvm.Cond.and given_1 narrow_1) := List.mem_of_getElem? (i := 6) (by decide +kernel)
theorem gv_us : Cond.isRef (.static "java/lang/Throwable" "UNASSIGNED_STACK" "[Ljava/lang/StackTraceElement;") ∈ flatC (Jvm.Cond.and given_1 narrow_1) := List.mem_of_getElem? (i := 7) (by decide +kernel)
theorem gv_ss : Cond.isRef (.static "java/lang/Throwable" "SUPPRESSED_SENTINEL" "Ljava/util/List;") ∈ flatC (Jvm.Cond.and given_1 narrow_1) := List.mem_of_getElem? (i := 8) (by decide +kernel)
theorem gv_nc : Cond.not (.castable "java/lang/IllegalStateException" "java/lang/IllegalArgumentException") ∈ flatC (Jvm.Cond.and given_1 narrow_1) := List.mem_of_getElem? (i := 20) (by decide +kernel)
theorem gv_s83 : Cond.exactly (.string "PairedWords" 83) "java/lang/String" ∈ flatC (Jvm.Cond.and given_1 narrow_1) := List.mem_of_getElem? (i := 48) (by decide +kernel)
theorem gv_s92 : Cond.exactly (.string "PairedWords" 92) "java/lang/String" ∈ flatC (Jvm.Cond.and given_1 narrow_1) := List.mem_of_getElem? (i := 64) (by decide +kernel)
theorem gv_s99 : Cond.exactly (.string "PairedWords" 99) "java/lang/String" ∈ flatC (Jvm.Cond.and given_1 narrow_1) := List.mem_of_getElem? (i := 97) (by decide +kernel)
theorem gv_s117 : Cond.exactly (.string "PairedWords" 117) "java/lang/String" ∈ flatC (Jvm.Cond.and given_1 narrow_1) := List.mem_of_getElem? (i := 126) (by decide +kernel)
theorem gv_s120 : Cond.exactly (.string "PairedWords" 120) "java/lang/String" ∈ flatC (Jvm.Cond.and given_1 narrow_1) := List.mem_of_getElem? (i := 153) (by decide +kernel)
theorem gv_s123 : Cond.exactly (.string "PairedWords" 123) "java/lang/String" ∈ flatC (Jvm.Cond.and given_1 narrow_1) := List.mem_of_getElem? (i := 184) (by decide +kernel)
theorem gv_s129 : Cond.exactly (.string "PairedWords" 129) "java/lang/String" ∈ flatC (Jvm.Cond.and given_1 narrow_1) := List.mem_of_getElem? (i := 205) (by decide +kernel)
theorem gv_s135 : Cond.exactly (.string "PairedWords" 135) "java/lang/String" ∈ flatC (Jvm.Cond.and given_1 narrow_1) := List.mem_of_getElem? (i := 241) (by decide +kernel)
theorem gv_s137 : Cond.exactly (.string "PairedWords" 137) "java/lang/String" ∈ flatC (Jvm.Cond.and given_1 narrow_1) := List.mem_of_getElem? (i := 272) (by decide +kernel)
theorem gv_s154 : Cond.exactly (.string "PairedWords" 154) "java/lang/String" ∈ flatC (Jvm.Cond.and given_1 narrow_1) := List.mem_of_getElem? (i := 294) (by decide +kernel)
theorem gv_s163 : Cond.exactly (.string "PairedWords" 163) "java/lang/String" ∈ flatC (Jvm.Cond.and given_1 narrow_1) := List.mem_of_getElem? (i := 333) (by decide +kernel)
theorem gv_s166 : Cond.exactly (.string "PairedWords" 166) "java/lang/String" ∈ flatC (Jvm.Cond.and given_1 narrow_1) := List.mem_of_getElem? (i := 359) (by decide +kernel)
theorem gv_s172 : Cond.exactly (.string "PairedWords" 172) "java/lang/String" ∈ flatC (Jvm.Cond.and given_1 narrow_1) := List.mem_of_getElem? (i := 399) (by decide +kernel)
theorem gv_s182 : Cond.exactly (.string "PairedWords" 182) "java/lang/String" ∈ flatC (Jvm.Cond.and given_1 narrow_1) := List.mem_of_getElem? (i := 436) (by decide +kernel)
theorem gv_s186 : Cond.exactly (.string "PairedWords" 186) "java/lang/String" ∈ flatC (Jvm.Cond.and given_1 narrow_1) := List.mem_of_getElem? (i := 476) (by decide +kernel)
theorem gv_s208 : Cond.exactly (.string "PairedWords" 208) "java/lang/String" ∈ flatC (Jvm.Cond.and given_1 narrow_1) := List.mem_of_getElem? (i := 510) (by decide +kernel)
theorem gv_s221 : Cond.exactly (.string "PairedWords" 221) "java/lang/String" ∈ flatC (Jvm.Cond.and given_1 narrow_1) := List.mem_of_getElem? (i := 545) (by decide +kernel)
theorem gv_s229 : Cond.exactly (.string "PairedWords" 229) "java/lang/String" ∈ flatC (Jvm.Cond.and given_1 narrow_1) := List.mem_of_getElem? (i := 579) (by decide +kernel)
theorem gv_s238 : Cond.exactly (.string "PairedWords" 238) "java/lang/String" ∈ flatC (Jvm.Cond.and given_1 narrow_1) := List.mem_of_getElem? (i := 621) (by decide +kernel)
theorem law_T {args : Array Value} {s : State} (hts : ∀ w ∈ lw_tbl, w.before args s = true) (hs : ∀ w ∈ flatC (Jvm.Cond.and given_1 narrow_1), w.before args s = true) : xT s := by
  refine ⟨?_, va_Nc.of (hs _ gv_nc)⟩
  unfold xSTR
  exact List.forall_mem_cons.mpr ⟨xstr (hts _ lt_s83) (hs _ gv_s83), List.forall_mem_cons.mpr ⟨xstr (hts _ lt_s92) (hs _ gv_s92), List.forall_mem_cons.mpr ⟨xstr (hts _ lt_s99) (hs _ gv_s99), List.forall_mem_cons.mpr ⟨xstr (hts _ lt_s117) (hs _ gv_s117), List.forall_mem_cons.mpr ⟨xstr (hts _ lt_s120) (hs _ gv_s120), List.forall_mem_cons.mpr ⟨xstr (hts _ lt_s123) (hs _ gv_s123), List.forall_mem_cons.mpr ⟨xstr (hts _ lt_s129) (hs _ gv_s129), List.forall_mem_cons.mpr ⟨xstr (hts _ lt_s135) (hs _ gv_s135), List.forall_mem_cons.mpr ⟨xstr (hts _ lt_s137) (hs _ gv_s137), List.forall_mem_cons.mpr ⟨xstr (hts _ lt_s154) (hs _ gv_s154), List.forall_mem_cons.mpr ⟨xstr (hts _ lt_s163) (hs _ gv_s163), List.forall_mem_cons.mpr ⟨xstr (hts _ lt_s166) (hs _ gv_s166), List.forall_mem_cons.mpr ⟨xstr (hts _ lt_s172) (hs _ gv_s172), List.forall_mem_cons.mpr ⟨xstr (hts _ lt_s182) (hs _ gv_s182), List.forall_mem_cons.mpr ⟨xstr (hts _ lt_s186) (hs _ gv_s186), List.forall_mem_cons.mpr ⟨xstr (hts _ lt_s208) (hs _ gv_s208), List.forall_mem_cons.mpr ⟨xstr (hts _ lt_s221) (hs _ gv_s221), List.forall_mem_cons.mpr ⟨xstr (hts _ lt_s229) (hs _ gv_s229), List.forall_mem_cons.mpr ⟨xstr (hts _ lt_s238) (hs _ gv_s238), fun _ h => absurd h List.not_mem_nil⟩⟩⟩⟩⟩⟩⟩⟩⟩⟩⟩⟩⟩⟩⟩⟩⟩⟩⟩
theorem law_start {args : Array Value} {s : State} {b L : Nat} {xs : Nat → Int32} (hts : ∀ w ∈ lw_tbl, w.before args s = true) (hX : va_X b L xs s s.heap) (hs : ∀ w ∈ flatC (Jvm.Cond.and given_1 narrow_1), w.before args s = true) : ∃ G : xG, G.2.2 b = some (L, xs) ∧ va_K G.1 xcl (xtys G) s ∧ xRep G (s.heap.size, fun _ => none) s.heap ∧ xZ G (s.heap.size, fun _ => none) s s.heap := by
  have hx : ∀ w ∈ xTAB, w.before args s = true := fun w hw => hts w (List.mem_filter.mp hw).1
  have hA : ∀ a : Nat, a < s.heap.size → ¬ xA (s.heap.size, fun _ => none) a := fun a ha q => by
    rcases q with q | q
    · exact absurd q (by simp)
    · exact absurd (show s.heap.size ≤ a from q) (by omega)
  have hb : b < s.heap.size := by
    obtain ⟨scr, h1, -⟩ := hX
    exact (Array.getElem?_eq_some_iff.mp h1).1
  obtain ⟨D, hD⟩ := xkn hx
  obtain ⟨cI, aI, rI9⟩ := xarP (hx _ aw_int)
  obtain ⟨cJ, aJ, rJ9⟩ := xarP (hx _ aw_long)
  obtain ⟨cZ, aZ, rZ9⟩ := xarP (hx _ aw_boolean)
  obtain ⟨cO, aO, rO9⟩ := xarO (hx _ aw_Line)
  refine ⟨(D, fun k => match k with | 0 => cI | 1 => cJ | 2 => cO | _ => cZ, fun a => if a = b then some (L, xs) else none), if_pos rfl, ⟨hD, fun k q hq => ?_⟩, ⟨rfl, fun a e9 h9 => by simp at h9⟩, fun a b9 hb9 => ?_, ?_, ?_, ?_⟩
  · match k with
    | 0 => cases hq; exact ⟨aI, rI9⟩
    | 1 => cases hq; exact ⟨aJ, rJ9⟩
    | 2 => cases hq; exact ⟨aO, rO9⟩
    | 3 => cases hq; exact ⟨aZ, rZ9⟩
    | k + 4 => cases hq
  · by_cases e : a = b
    · subst e
      have e2 : some (L, xs) = some b9 := by simpa using hb9
      cases e2
      exact ⟨hX, hA a hb⟩
    · exact absurd hb9 (by simp [e])
  · obtain ⟨v, hv, hr⟩ := Cond.isRef_spec (hs _ gv_us)
    exact ⟨v, hr, xSt_of (hts _ lt_us) (hts _ lt_it) hv hA⟩
  · obtain ⟨v, hv, hr⟩ := Cond.isRef_spec (hs _ gv_ss)
    exact ⟨v, hr, xSt_of (hts _ lt_ss) (hts _ lt_it) hv hA⟩
  · obtain ⟨t, ht, -⟩ := va_Tof (N := 0) (f := fun _ => .null) (A := xA (s.heap.size, fun _ => none)) (by decide) (hs _ gv_na) (va_eqt (hs _ gv_nl)) (fun j hj => absurd hj (Nat.not_lt_zero _)) hA
    exact ⟨t, xSt_of (hts _ lt_ne) (hts _ lt_iw) ht hA⟩
theorem xnar {p : Program} {l : Launch} {e : Env} {R R' : Room} {s : State} {m : MethodId} {args : Array Value} {below : List Frame} {meth : Method} {c : Code} {T : State} {locs : List Loc} {k n : Nat} (X : Stand p l e R s m args below meth c T locs k n) (h1 : R'.frames ≤ R.frames) (h2 : R'.cells ≤ R.cells) (h3 : R'.slots ≤ R.slots) (h4 : R'.locals ≤ R.locals) : Stand p l e R' s m args below meth c T locs k n := by
  have hr : s.hasRoom e.platform R' = true := by
    have h := X.room
    simp only [State.hasRoom, Bool.and_eq_true, decide_eq_true_eq] at h ⊢
    obtain ⟨⟨⟨⟨z1, z2, z3, z4, z5, z6⟩, z7⟩, z8⟩, z9⟩ := h
    exact ⟨⟨⟨⟨by omega, by omega, by omega, by omega, by omega, z6⟩, by omega⟩, by omega⟩, z9⟩
  exact ⟨X.admits, X.cas, X.clock, X.frames, hr, X.hears, X.method, X.code, X.here, X.tail, X.warmed, X.limits, X.bytes, X.same⟩
theorem xsame0 {s t : State} {locs : List Loc} {k n k' n' : Nat} (h : s.sameButNew t locs k n) (hl : ∀ x ∈ locs, s.heap.size ≤ x.base) (hk : k ≤ k') (hn : n ≤ n') : s.sameButNew t [] k' n' := by
  obtain ⟨e1, e2, e3, e4, e5, e6⟩ := h
  refine ⟨e1, e2, by omega, e4, Nat.le_trans e5 hn, fun a c hc => ?_⟩
  obtain ⟨c9, z1, z2, z3, z4⟩ := e6 a c hc
  refine ⟨c9, z1, z2, z3, fun i _ => z4 i (fun hm => ?_)⟩
  have h1 := hl _ hm
  have h2 := (Array.getElem?_eq_some_iff.mp hc).1
  exact absurd h1 (by show ¬ s.heap.size ≤ a; omega)
