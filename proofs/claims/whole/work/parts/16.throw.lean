/-! Throwing and catching (launches without stack traces). -/
section XTHROW
/-- the frame as if it had been entered in the heap of now: what was written before is old -/
theorem xrebase {p : Program} {l : Launch} {e : Env} {R : Room} {s : State} {m : MethodId} {args : Array Value} {below : List Frame} {meth : Method} {c : Code} {T : State} {locs : List Loc} {k n : Nat} (X : Stand p l e R s m args below meth c T locs k n) {R' : Room} (hf : R'.frames ≤ R.frames) (hl : R'.locals ≤ R.locals) (hc : k + R'.cells ≤ R.cells) (hs : n + R'.slots ≤ R.slots) :
    Stand p l e R' ((T.setVm s.vm).setFrames (.invoking m args :: below)) m args below meth c T [] 0 0 := by
  have htop : (T.setVm s.vm).topJava?.isSome := X.here.top
  obtain ⟨g₀, hg0⟩ := Option.isSome_iff_exists.mp htop
  obtain ⟨r, hr⟩ := State.topJava?_eq_some.mp hg0
  obtain ⟨th, hth, -⟩ := State.frames_cons hr
  have hF : ((T.setVm s.vm).setFrames (.invoking m args :: below)).frames = .invoking m args :: below := State.frames_setFrames _ (State.cur_lt_of_top htop)
  have hlim : e.platform.stackLimits (T.setVm s.vm).me = e.platform.stackLimits s.me := X.limits
  have hbyt : (T.setVm s.vm).me.stackBytes = s.me.stackBytes := X.bytes
  have hdrop : T.heap.toList.drop T.heap.size = [] := List.drop_eq_nil_of_le (Nat.le_of_eq Array.length_toList)
  refine ⟨X.admits, X.cas, X.clock, hF, ?_, X.hears, X.method, X.code, X.here, X.tail, X.warmed, ?_, ?_, ?_, Nat.le_refl _, Nat.le_refl _, ?_, ?_, fun a c9 h9 => ⟨c9, h9, rfl, rfl, fun _ _ => rfl⟩⟩
  · have h := X.room
    have hU : ((T.setVm s.vm).setFrames (.invoking m args :: below)).localsInUse = s.localsInUse := by
      rw [State.localsInUse_invoking hF (meth := meth) (c := c) X.method X.code, State.localsInUse_invoking X.frames X.method X.code]
    simp only [State.hasRoom, Bool.and_eq_true, decide_eq_true_eq] at h ⊢
    obtain ⟨⟨⟨⟨h1, h2, h3, h4, h5, h6⟩, h7⟩, h8⟩, h9⟩ := h
    rw [X.frames, List.length_cons] at h2 h3
    have q1 := X.heapSize
    have q2 := X.used
    simp only [hF, hU, List.length_cons, State.stackLimits_setFrames, State.stackBytes_setFrames, hlim, hbyt]
    have z1 : T.heap.size + R'.cells ≤ e.platform.maxCells := by omega
    have z2 : T.slotsUsed + R'.slots ≤ e.platform.maxSlots := by omega
    exact ⟨⟨⟨⟨by omega, by omega, by omega, by omega, by omega, h6⟩, z1⟩, z2⟩, X.book⟩
  · rw [State.stackLimits_setFrames]; rfl
  · rw [State.stackBytes_setFrames]; rfl
  · show T.setVm s.vm = { ((T.setVm s.vm).setFrames (.invoking m args :: below)).setFrames (T.setVm s.vm).frames with heap := T.heap, slotsUsed := T.slotsUsed }
    rw [State.setFrames_setFrames, State.setFrames_self hth]
    rfl
  · show T.slotsUsed = T.slotsUsed + ((T.heap.toList.drop T.heap.size).map (·.slots.size)).sum
    rw [hdrop]; rfl
  · show ((T.heap.toList.drop T.heap.size).map (·.slots.size)).sum ≤ 0
    rw [hdrop]; exact Nat.le_refl _
theorem xunmoved {s U : State} {k n : Nat} (h : s.sameButNew ({ U with vm := s.vm } : State) [] k n) : s.heap.size ≤ U.heap.size ∧ U.heap.size ≤ s.heap.size + k ∧ ∀ q : Nat, q < s.heap.size → U.heap[q]? = s.heap[q]? := by
  obtain ⟨-, h2, h3, -, -, h6⟩ := h
  refine ⟨h2, h3, fun q hq => ?_⟩
  obtain ⟨c9, e1, e2, -, e4⟩ := h6 q _ (Array.getElem?_eq_getElem hq)
  have hs : c9.slots = (s.heap[q]).slots := Array.ext_getElem? fun i => e4 i (fun hm => nomatch hm)
  have h9 : c9 = s.heap[q] := by rw [hs] at e2; exact e2
  have e5 : U.heap[q]? = some c9 := e1
  rw [e5, h9, Array.getElem?_eq_getElem hq]
/-- the words of a throw that speak of the heap -/
def xhw (w : Cond) : Bool := decide (w = .isRef (.static Bundle.tN "UNASSIGNED_STACK" Bundle.steD)) || decide (w = .isRef (.static Bundle.tN "SUPPRESSED_SENTINEL" Bundle.listD)) || decide (w = .laysStatic Bundle.tN "UNASSIGNED_STACK" Bundle.steD) || decide (w = .laysStatic Bundle.tN "SUPPRESSED_SENTINEL" Bundle.listD)
def xOwn (own : String) (ik is ic : Nat) (E text : String) (names : List String) : Prop :=
  (∀ w ∈ Bundle.ownAtoms own ic E names, w ∈ xTAB ∨ xhw w = true) ∧ Cond.classLink own ik E ∈ xTAB ∧ Cond.initialized E ∈ xTAB ∧ Cond.instantiable E 6 ∈ xTAB ∧ (own, is, text) ∈ xSTR ∧ Bundle.fit E = true ∧ (∀ n ∈ names, Bundle.fit n = true) ∧ names.length ≤ 2
variable {C : xCt} {M : xMt} {pc : Nat} {L : List (Option Value)} {st : List Value} {h : xH} {k n : Nat}
theorem ex_throw {ik is ic : Nat} {E text : String} {names : List String} (d0 : decode M.2.1 pc = .ok (.new ik, 3)) (d3 : decode M.2.1 (pc + 3) = .ok (.dup, 1)) (d4 : decode M.2.1 (pc + 4) = .ok (.ldc is, 2)) (d6 : decode M.2.1 (pc + 6) = .ok (.invokespecial ic, 3)) (d9 : decode M.2.1 (pc + 9) = .ok (.athrow, 1))
    (hw : xOwn M.1.cls ik is ic E text names) (hh : M.2.2.2.2 = []) (hst : (st.map fun v => v.category).sum ≤ 16) (hk : k + 1 ≤ C.2.2.2.1) (hn : n + 6 ≤ C.2.2.2.2.1) (hq : C.2.2.2.2.2.2 (.inr E) (xbump h)) : Ex C M pc L st h k n := by
  intro p e s m args below meth c X H locs ls hL hR hS T hT XS
  have XX := X
  have hKs := xC_K X
  obtain ⟨hx, hb, hml, hown, -, hlk, -, htab, hstt, hK, hts, hR0, hZ0, hT0⟩ := X
  obtain ⟨hat, hcl, hini, hins, hstr, hfit, hnames, hnl⟩ := hw
  have htr : e.platform.stackTraces = false := (show e.platform.stackTraces = C.1.stackTraces by rw [XS.admits.platform]).trans hstt
  have Y := xrebase XS (R' := { frames := (xR C).frames, locals := (xR C).locals, cells := 1, slots := 6 }) (Nat.le_refl _) (Nat.le_refl _) hk hn
  obtain ⟨s', hA⟩ : ∃ z, z = (T.setVm s.vm).setFrames (.invoking m args :: below) := ⟨_, rfl⟩
  rw [← hA] at Y
  have hvm : s'.vm = s.vm := by rw [hA]; rfl
  have hhp : s'.heap = H := by rw [hA]; exact hT
  have hW0 : s.WarmedH s'.vm := by rw [hvm]; exact State.WarmedH.refl s
  have hK' : xK C.2.1 s' := xK_moved hW0 hKs
  have hZ' : xZ C.2.1 h s' s'.heap := by rw [hhp]; exact xZ_at hZ0 hS hW0.alike
  have hts' := xK_words (args := args) hK'
  obtain ⟨-, ⟨v1, r1, s1⟩, ⟨v2, r2, s2⟩, -⟩ := hZ'
  have hwords : ∀ w ∈ Bundle.ownAtoms M.1.cls ic E names, w.before args s' = true := fun w hw9 => by
    rcases hat w hw9 with h1 | h1
    · exact hts' w h1
    · simp only [xhw, Bool.or_eq_true, decide_eq_true_eq] at h1
      rcases h1 with ((h1 | h1) | h1) | h1
      · rw [h1]; exact s1.isRef r1
      · rw [h1]; exact s2.isRef r2
      · rw [h1]; exact s1.lays
      · rw [h1]; exact s2.lays
  have hown' : s'.vm.findClass M.1.cls = some m.cls := by rw [hvm]; exact hown
  obtain ⟨vm₁, cX, kX, hfX, hkX, -, -, X₁, st1⟩ := Y.newCold hx (own := M.1.cls) (C := E) (index := ik) (n := 6) hown' (hts' _ hcl) (hts' _ hins) (hts' _ hini)
    (g := F0 m pc ls st) rfl (by rw [hb]; exact d0) (Nat.le_refl _) (Nat.le_refl _)
  generalize hT1 : (T.setVm vm₁).pushCell { cls := cX, slots := kX.instanceTypes.map defaultValue, vm := .none } = T1 at X₁ st1
  have hcat : (Value.ref T.heap.size).category = 1 := rfl
  have hcellA : T1.heap[T.heap.size]? = some (freshCell cX kX) := by rw [← hT1]; exact State.heap_pushCell_size _ _
  have hT1sz : T1.heap.size = T.heap.size + 1 := by rw [← hT1]; exact State.heap_size_pushCell _ _
  have d3' : decode c.code (pc + 3) = .ok (.dup, 1) := by rw [hb]; exact d3
  have d4' : decode c.code (pc + 4) = .ok (.ldc is, 2) := by rw [hb]; exact d4
  obtain ⟨sa, hsa⟩ := hK'.2.2.1 _ hstr
  have hout : ∀ x ∈ c.exceptionTable.toList, covers x (pc + 9) = false := fun x hx9 => by
    rw [hh] at htab
    rw [List.map_eq_nil_iff.mp htab] at hx9
    cases hx9
  obtain ⟨U, hsteps, hrun, hend, hW, hsame, ce, hce, hO⟩ := X₁.ctorThrowS hx htr (own := M.1.cls) (cls := E) (names := names) (ic := ic) hown' hfit hnames hwords (fun x hx => nomatch hx) hfX hkX hcellA (by rw [hhp, hT]; exact Nat.le_refl _) (msg := .ref sa) rfl
    (g := { method := m, pc := pc + 6, locals := ls, stack := .ref sa :: .ref T.heap.size :: .ref T.heap.size :: st, locked := none }) rfl (by rw [hml]; exact hL.1) rfl rfl (rest := st) rfl
    (by rw [hb]; exact d6) (by rw [hb]; exact d9) hout (by show _ < C.2.2.1 + 8; omega) (by show 2 * 0 + _ + _ ≤ 64 * C.2.2.1 + 200; simp only [List.map_cons, List.sum_cons, hcat]; omega) hlk
  obtain ⟨f1, f2, f3⟩ := xunmoved hsame
  rw [hhp] at f1 f2 f3
  have hWs : s.WarmedH U.vm := State.WarmedH.trans hW0 hW
  have hUs : U.heap.size = H.size + 1 := by
    have := hsteps.heap_le
    have h9 : T1.heap.size ≤ U.heap.size := this
    rw [hT1sz, hT] at h9
    omega
  have hcls : s.vm.findClass E = some ce.cls := by
    have h9 := hO.cls
    rw [hvm] at h9
    exact h9
  have hall : s.sameButNew ({ U with vm := s.vm } : State) locs C.2.2.2.1 C.2.2.2.2.1 := by
    subst hA
    obtain ⟨e1, e2⟩ := hsame
    rw [State.setFrames_setFrames] at e1
    have h2 : (T.setVm s.vm).sameButNew ({ U with vm := s.vm } : State) [] (0 + 1) (0 + 6) := ⟨e1, e2⟩
    have h3 := XS.same.trans h2
    rw [List.append_nil] at h3
    exact h3.mono hk hn
  refine ⟨U, ?_, .threw T.heap.size, hrun, hend, .inr E, xbump h, hq, ⟨T.heap.size, ce, rfl, hce, hO.vm, hcls⟩, ⟨by rw [hUs, hR.1]; rfl, fun a e9 h9 => ?_⟩, hWs, locs, ⟨Nat.le_trans hS.1 f1, fun q g1 g2 => ?_, hS.2.2.1, fun q hq9 => ?_⟩, hall⟩
  · refine st1 _ ?_
    show Steps p.tables e below (T1.setTop { method := m, pc := pc + 3, locals := ls, stack := .ref T.heap.size :: st, locked := none }) _
    jvm_step X₁.here [X₁.here.top, hx, d3', Value.category]
    exact X₁.ldcString hx (own := M.1.cls) (text := text) (index := is) (a := sa) hown' hsa.1 hsa.2
      (g := { method := m, pc := pc + 4, locals := ls, stack := .ref T.heap.size :: .ref T.heap.size :: st, locked := none }) rfl d4' _ hsteps
  · have h8 : h.2 a = some e9 := h9
    exact (hR.2 a e9 h8).kept (f3 a (hR.2 a e9 h8).lt)
  · rw [f3 q (Nat.lt_of_lt_of_le g1 hS.1)]; exact hS.2.1 q g1 g2
  · rcases hq9 with h8 | h8
    · exact hS.2.2.2 q (Or.inl h8)
    · exact hS.2.2.2 q (Or.inr (Nat.le_of_succ_le h8))
end XTHROW
