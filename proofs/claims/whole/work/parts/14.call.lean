/-! Contracts over the abstract configuration, and calls. -/
/-- the contract of M for the arguments av over the cells h: it ends; its outcome and its cells then are as Q allows; at most mc cells of ms slots are new -/
def xMet (l : Launch) (G : xG) (M : xMt) (d mc ms : Nat) (av : List Value) (h : xH) (Q : xO → xH → Prop) : Prop :=
  MetFree l M.1 (headSpec [Cond.codeWith M.1 M.2.1 M.2.2.1 M.2.2.2.1 M.2.2.2.2] (xR (l, G, d, mc, ms, h, Q)))
    (fun a U => a = av.toArray ∧ l.stackTraces = false ∧ xK G U ∧ xRep G h U.heap ∧ xZ G h U U.heap) (fun _ _ _ _ _ => True) (fun _ st o t => xPost G mc ms h Q st o t)
def xent : List Value → Nat → List (Option Value)
  | [], n => List.replicate n none
  | .long x :: t, n => some (.long x) :: none :: xent t (n - 2)
  | .double x :: t, n => some (.double x) :: none :: xent t (n - 2)
  | v :: t, n => some v :: xent t (n - 1)
theorem xent_get : ∀ (vs : List Value) (n b i : Nat) (v : Value), (xent vs n)[i]? = some (some v) → (b + i, v) ∈ lv_args b vs
  | [], n, b, i, v, h => by
    rw [xent, List.getElem?_replicate] at h
    split at h <;> simp at h
  | w :: t, n, b, i, v, h => by
    have one : w.category = 1 → (some w :: xent t (n - 1))[i]? = some (some v) → (b + i, v) ∈ lv_args b (w :: t) := by
      intro hc h
      rw [lv_args, if_neg (by omega)]
      cases i with
      | zero => simp at h; subst h; exact List.mem_cons_self
      | succ j =>
        have := xent_get t (n - 1) (b + 1) j v (by simpa using h)
        exact List.mem_cons_of_mem _ (by rw [show b + (j + 1) = b + 1 + j by omega]; exact this)
    have two : w.category = 2 → (some w :: none :: xent t (n - 2))[i]? = some (some v) → (b + i, v) ∈ lv_args b (w :: t) := by
      intro hc h
      rw [lv_args, if_pos hc]
      cases i with
      | zero => simp at h; subst h; exact List.mem_cons_self
      | succ j =>
        cases j with
        | zero => simp at h
        | succ j =>
          have := xent_get t (n - 2) (b + 2) j v (by simpa using h)
          exact List.mem_cons_of_mem _ (by rw [show b + (j + 1 + 1) = b + 2 + j by omega]; exact this)
    cases w with
    | long x => exact two rfl (by simpa [xent] using h)
    | double x => exact two rfl (by simpa [xent] using h)
    | _ => exact one rfl (by simpa [xent] using h)
theorem xK_words {G : xG} {U : State} (h : xK G U) {args : Array Value} : ∀ w ∈ xTAB, w.before args U = true := fun w hw => xwk_at (State.WarmedH.refl U) (xTAB_k w hw) (h.2.1 w hw)
theorem xK_moved {G : xG} {s U : State} (hW : s.WarmedH U.vm) (h : xK G s) : xK G U := ⟨va_K.moved hW.alike h.1, fun w hw => xwk_at hW (xTAB_k w hw) (h.2.1 w hw), xT_moved hW h.2.2⟩
theorem xZ_at {G : xG} {h0 h : xH} {s U : State} {H : Heap} {locs : List Loc} (hZ : xZ G h0 s s.heap) (hS : xS h0 s.heap h H locs) (hvm : s.vm.Alike U.vm) : xZ G h U H := by
  refine ⟨fun a b hb => ?_, ?_⟩
  · obtain ⟨h1, h2⟩ := hZ.1 a b hb
    have hlt : a < s.heap.size := by
      obtain ⟨scr, h1, -⟩ := h1
      exact (Array.getElem?_eq_some_iff.mp h1).1
    exact ⟨va_X.moved hvm (h1.kept (hS.2.1 a hlt h2)), fun q => h2 (hS.2.2.2 a q)⟩
  · exact xZs_narrow (xZs_moved hvm (xZs_kept hZ.2 hS.2.1)) hS.2.2.2
theorem xMet_of {l : Launch} {G : xG} {M : xMt} {d mc ms : Nat} {av : List Value} {h : xH} {Q : xO → xH → Prop} {L : List (Option Value)} (hy : plainName M.1.cls = true) (hlen : (lg_sl av).length ≤ M.2.2.1) (hL : xent av M.2.2.1 = L) (w : Ex (l, G, d, mc, ms, h, Q) M 0 L [] h 0 0) : xMet l G M d mc ms av h Q := by
  refine MetFree.of_bodyS (code := M.2.1) (maxLocals := M.2.2.1) (ret := M.2.2.2.1) hy ?_ ?_
  · intro args s m h hn
    obtain ⟨m9, meth, c, hn9, h1, h2, h3, h4, -, h5, h6, -⟩ := Cond.codeWith_spec (atoms_spec (ws := [Cond.codeWith M.1 M.2.1 M.2.2.1 M.2.2.2.1 M.2.2.2.2]) h _ List.mem_cons_self)
    cases hn.symm.trans hn9
    exact ⟨meth, c, h1, h2, h3, h4, h5, h6⟩
  · intro p e s m args below meth c s₁ B hml hP _
    obtain ⟨rfl, hst, hK, hR, hZ⟩ := hP
    have hh0 : s₁.heap = s.heap := by rw [B.state]; rfl
    have htab : c.exceptionTable.toList.map (fun h => (h.startPc, h.endPc, h.handlerPc, h.catchType)) = M.2.2.2.2 := by
      obtain ⟨m9, meth9, c9, hn9, h1, h2, -, -, h6, -⟩ := Cond.codeWith_spec (atoms_spec (ws := [Cond.codeWith M.1 M.2.1 M.2.2.1 M.2.2.2.1 M.2.2.2.2]) B.pre _ List.mem_cons_self)
      cases Option.some.inj (hn9.symm.trans B.named)
      cases Option.some.inj (h1.symm.trans B.method)
      cases Option.some.inj (h2.symm.trans (Stand.of_body B).code)
      exact h6
    have X : xC (l, G, d, mc, ms, h, Q) M p e s m av.toArray below meth c := ⟨B.exec, B.bytes, hml, findClass_of_methodNamed B.named, B.returns, B.notSynchronized, (name_of_methodNamed B.named B.method).1, htab, hst, hK.1, xK_words hK, hR, hZ, hK.2.2⟩
    have hent := lv_entry av (n := M.2.2.1) hlen
    have hLL : xL ((lg_sl av ++ List.replicate (M.2.2.1 - (lg_sl av).length) Slot.unset).toArray) M.2.2.1 L := by
      refine ⟨hent.1, hent.2.1, fun i v hv => ?_⟩
      rw [← hL] at hv
      have := xent_get av M.2.2.1 0 i v hv
      rw [Nat.zero_add] at this
      exact hent.2.2 (i, v) this
    have hSS : xS h s.heap h s.heap [] := ⟨Nat.le_refl _, fun _ _ _ => rfl, fun x hx => (nomatch hx), fun q hq => hq⟩
    have k := w p e s m av.toArray below meth c X s.heap [] _ hLL hR hSS
    have hee : entryFrame m av.toArray M.2.2.1 = F0 m 0 ((lg_sl av ++ List.replicate (M.2.2.1 - (lg_sl av).length) Slot.unset).toArray) [] := lg_entry_eq ..
    rw [hee]
    obtain ⟨t, a1, o, b1, b2, b3⟩ := k s₁ hh0 (Stand.of_body B)
    exact ⟨t, o, a1, b1, b2, b3⟩
theorem xMet_mono {l : Launch} {G : xG} {M : xMt} {d mc ms : Nat} {av : List Value} {h : xH} {Q Q' : xO → xH → Prop} (hM : xMet l G M d mc ms av h Q) (hq : ∀ o h', Q o h' → Q' o h') : xMet l G M d mc ms av h Q' := by
  intro p e ha hc hk s m args below hf happ hP hK
  obtain ⟨n, o, h1, h2, h3, xo, h', h4, h5⟩ := hM p e ha hc hk s m args below hf happ hP hK
  exact ⟨n, o, h1, h2, h3, xo, h', hq _ _ h4, h5⟩
/-- the method's code is among the words -/
def xCode (M : xMt) : Prop := (Cond.codeWith M.1 M.2.1 M.2.2.1 M.2.2.2.1 M.2.2.2.2 ∈ xTAB ∨ (M.2.2.2.2 = [] ∧ Cond.code M.1 M.2.1 M.2.2.1 M.2.2.2.1 ∈ xTAB)) ∧ Cond.initialized M.1.cls ∈ xTAB ∧ M.2.2.1 ≤ 37
theorem xCode_at {M : xMt} {G : xG} {U : State} {a : Array Value} (h : xCode M) (hK : xK G U) : (Cond.codeWith M.1 M.2.1 M.2.2.1 M.2.2.2.1 M.2.2.2.2).before a U = true := by
  rcases h.1 with h | ⟨h1, h2⟩
  · exact xK_words hK _ h
  · rw [h1]
    have h3 : (Cond.code M.1 M.2.1 M.2.2.1 M.2.2.2.1).before a U = true := xK_words hK _ h2
    simp only [Cond.before, Cond.holds] at h3 ⊢
    rw [← Cond.code_iff_codeWith_nil]
    exact h3
/-- the call itself: from the invocation's note to the return, or to the thrown object -/
theorem xcore {l : Launch} {G : xG} {p : Program} {e : Env} {R : Room} {s : State} {m : MethodId} {args : Array Value} {below : List Frame} {meth : Method} {c : Code} {U : State} {Ls : List Loc} {c0 s0 : Nat}
    (X : Stand p l e R s m args below meth c U Ls c0 s0) {M : xMt} {d mc ms : Nat} {av : List Value} {h : xH} {Q : xO → xH → Prop} (hM : xMet l G M d mc ms av h Q) (hc : xCode M) {g : JFrame} (hg : g.method = m) (hsize : g.locals.size = c.maxLocals) {ig : Instr} {len : Nat} (hdg : decode c.code g.pc = .ok (ig, len))
    (hW : 2 * g.monitorRoom + (g.stack.map fun v => v.category).sum ≤ 16) {mk : MethodId} (hn : U.methodNamed? M.1 = some mk) (hst : l.stackTraces = false) (hK : xK G U) (hR : xRep G h U.heap) (hZ : xZ G h U U.heap)
    (hfr : d + 9 ≤ R.frames) (hlo : 64 * d + 264 ≤ R.locals) (h4 : c0 + mc ≤ R.cells) (h5 : s0 + ms ≤ R.slots) :
    ∃ (xo : xO) (h' : xH) (T' : State) (L : List Loc), Q xo h' ∧ xRep G h' T'.heap ∧ Stand p l e R s m args below meth c T' (Ls ++ L) (c0 + mc) (s0 + ms) ∧ xS h U.heap h' T'.heap L ∧
      (match xo with
        | .inl v => Steps p.tables e below (doInvoke e (U.setTop g) [] mk av.toArray).1 (T'.setTop { g with pc := g.pc + len, stack := v.toList ++ g.stack })
        | .inr E => ∃ (q : Addr) (ce : Cell), T'.heap[q]? = some ce ∧ ce.vm = .none ∧ U.vm.findClass E = some ce.cls ∧ Steps p.tables e below (doInvoke e (U.setTop g) [] mk av.toArray).1 ((T'.setTop g).pushFrame (.throwing q))) := by
  have h2 := xCode_at (a := av.toArray) hc hK
  have h1 : (headSpec [Cond.codeWith M.1 M.2.1 M.2.2.1 M.2.2.2.1 M.2.2.2.2] (xR (l, G, d, mc, ms, h, Q))).pre.before av.toArray U = true := atoms_intro fun w hw => by
    rw [List.mem_singleton.mp hw]; exact h2
  have h3 : (Cond.initialized M.1.cls).before av.toArray U = true := xK_words hK _ hc.2.1
  obtain ⟨m9, methY, cY, hn9, hmY, hcY, -, hlY, -⟩ := Cond.codeWith_spec h2
  cases Option.some.inj (hn9.symm.trans hn)
  obtain ⟨kY, hkY, -⟩ := className_of_methodNamed hn
  have hinitY : kY.init = .initialized := Cond.initialized_spec (findClass_of_methodNamed hn) hkY h3
  have hA : At U g.method c below := by rw [hg]; exact X.here
  have hml := hc.2.2
  have happ : (headSpec [Cond.codeWith M.1 M.2.1 M.2.2.1 M.2.2.2.1 M.2.2.2.2] (xR (l, G, d, mc, ms, h, Q))).appliesLoose M.1 e.platform (U.calling g mk av.toArray) = true :=
    Spec.appliesLoose_calling (g := g) hA hdg hn hkY hinitY
      (X.room_calling (g := g) (R' := xR (l, G, d, mc, ms, h, Q)) hsize hmY hcY (by show d + 8 + 1 ≤ _; omega) (by rw [hlY]; show _ + _ + (64 * d + 200) ≤ _; omega) h4 h5) h1
  obtain ⟨mid, hmid⟩ := hA.above
  have hfr9 : (U.setTop g).frames = (.java g :: mid) ++ below := by rw [State.frames_setTop' g hA.top, hmid]; rfl
  have hPc : av.toArray = av.toArray ∧ l.stackTraces = false ∧ xK G (U.calling g mk av.toArray) ∧ xRep G h (U.calling g mk av.toArray).heap ∧ xZ G h (U.calling g mk av.toArray) (U.calling g mk av.toArray).heap :=
    ⟨rfl, hst, xK_moved (U := U.calling g mk av.toArray) (State.WarmedH.refl U) hK, hR, ⟨fun a b hb => ⟨va_X.moved (U := U.calling g mk av.toArray) (Vm.Alike.refl U.vm) (hZ.1 a b hb).1, (hZ.1 a b hb).2⟩, xZs_moved (U := U.calling g mk av.toArray) (Vm.Alike.refl U.vm) hZ.2⟩⟩
  obtain ⟨o, s₂, hsteps, -, hend, xo, h', hQ, hxo, hR', hW₂, L, hS', hsm⟩ := Steps.callFree hM p X.admits X.cas X.clock (acts := []) hfr9 happ hPc trivial
  rw [State.frames_setTop' g hA.top] at hend
  obtain ⟨g₀, hg0⟩ := Option.isSome_iff_exists.mp hA.top
  obtain ⟨r, hr⟩ := State.topJava?_eq_some.mp hg0
  have hr' : (({ U with heap := s₂.heap, slotsUsed := s₂.slotsUsed } : State).setVm s₂.vm).frames = .java g₀ :: r := hr
  have hsm' : (U.calling g mk av.toArray).sameButNew ({ s₂ with vm := (U.calling g mk av.toArray).vm } : State) L mc ms := hsm
  obtain ⟨e2, q2, q3, q4, q5, q6⟩ := hsm'
  have e3 : s₂ = ({ (U.calling g mk av.toArray).setFrames s₂.frames with heap := s₂.heap, slotsUsed := s₂.slotsUsed } : State).setVm s₂.vm := by
    have : s₂ = ({ s₂ with vm := (U.calling g mk av.toArray).vm } : State).setVm s₂.vm := rfl
    rw [e2] at this
    exact this
  have hW' : U.WarmedH s₂.vm := hW₂
  have hsame : U.sameButNew ({ U with heap := s₂.heap, slotsUsed := s₂.slotsUsed } : State) L mc ms := by
    refine ⟨?_, q2, q3, q4, q5, q6⟩
    obtain ⟨t, ht, -⟩ := State.frames_cons hr
    show ({ U with heap := s₂.heap, slotsUsed := s₂.slotsUsed } : State) = { U.setFrames U.frames with heap := s₂.heap, slotsUsed := s₂.slotsUsed }
    rw [State.setFrames_self ht]
  have X' : Stand p l e R s m args below meth c (({ U with heap := s₂.heap, slotsUsed := s₂.slotsUsed } : State).setVm s₂.vm) (Ls ++ L) (c0 + mc) (s0 + ms) :=
    ⟨X.admits, X.cas, X.clock, X.frames, X.room, X.hears, X.method, X.code, by have := (X.here.setHeapUsed s₂.heap s₂.slotsUsed).setVm hW'.alike; exact this, X.tail, State.WarmedH.trans X.warmed hW', X.limits, X.bytes, X.same.trans (hsame.setVm s.vm)⟩
  refine ⟨xo, h', (({ U with heap := s₂.heap, slotsUsed := s₂.slotsUsed } : State).setVm s₂.vm), L, hQ, hR', X', hS', ?_⟩
  cases xo with
  | inl v =>
    have ho : o = .returned v := hxo
    subst ho
    obtain ⟨c₂, i₂, len₂, hc₂, hd₂, hf₂⟩ := hend
    have hcc : c₂ = c := by
      have h1 : s₂.code? g.method = U.code? g.method := by
        rw [State.code?_eq, State.code?_eq, hW'.alike.method?]
      exact Option.some.inj (hc₂.symm.trans (h1.trans hA.code))
    subst hcc
    have hlen : len₂ = len := by rw [hdg] at hd₂; cases hd₂; rfl
    subst hlen
    have hs₂ : s₂ = (({ U with heap := s₂.heap, slotsUsed := s₂.slotsUsed } : State).setVm s₂.vm).setTop { g with pc := g.pc + len₂, stack := v.toList ++ g.stack } := by
      refine e3.trans ?_
      rw [hf₂, State.calling_eq hA.top, State.setFrames_setFrames, State.setTop_of_frames _ hr', hr]
      rfl
    show Steps p.tables e below _ ((({ U with heap := s₂.heap, slotsUsed := s₂.slotsUsed } : State).setVm s₂.vm).setTop { g with pc := g.pc + len₂, stack := v.toList ++ g.stack })
    rw [← hs₂]
    exact hsteps
  | inr E =>
    obtain ⟨q, ce, ho, hce, hcv, hcl⟩ := hxo
    subst ho
    have hf₂ : s₂.frames = .throwing q :: .java g :: U.frames.tail := hend
    have hs₂ : s₂ = ((({ U with heap := s₂.heap, slotsUsed := s₂.slotsUsed } : State).setVm s₂.vm).setTop g).pushFrame (.throwing q) := by
      refine e3.trans ?_
      rw [hf₂, State.calling_eq hA.top, State.setFrames_setFrames, State.pushFrame, State.frames_setTop _ hr', State.setTop_of_frames _ hr', State.setFrames_setFrames, hr]
      rfl
    refine ⟨q, ce, hce, hcv, hcl, ?_⟩
    show Steps p.tables e below _ (((({ U with heap := s₂.heap, slotsUsed := s₂.slotsUsed } : State).setVm s₂.vm).setTop g).pushFrame (.throwing q))
    rw [← hs₂]
    exact hsteps
theorem xS_trans {h0 h h' : xH} {H0 H H' : Heap} {locs L : List Loc} (h1 : xS h0 H0 h H locs) (h2 : xS h H h' H' L) : xS h0 H0 h' H' (locs ++ L) := by
  refine ⟨Nat.le_trans h1.1 h2.1, fun q hq hn => ?_, fun x hx => ?_, fun q hq => h1.2.2.2 q (h2.2.2.2 q hq)⟩
  · rw [h2.2.1 q (Nat.lt_of_lt_of_le hq h1.1) (fun z => hn (h1.2.2.2 q z))]
    exact h1.2.1 q hq hn
  · rcases List.mem_append.mp hx with h | h
    · exact h1.2.2.1 x h
    · exact h1.2.2.2 _ (h2.2.2.1 x h)
/-- the frame at pc, with an object of the class E thrown over it -/
def ExX (C : xCt) (M : xMt) (pc : Nat) (L : List (Option Value)) (st : List Value) (E : String) (h : xH) (k n : Nat) : Prop :=
  ∀ (p : Program) (e : Env) (s : State) (m : MethodId) (args : Array Value) (below : List Frame) (meth : Method) (c : Code), xC C M p e s m args below meth c →
    ∀ (H : Heap) (locs : List Loc) (ls : Array Slot), xL ls M.2.2.1 L → xRep C.2.1 h H → xS C.2.2.2.2.2.1 s.heap h H locs →
      ∀ (q : Addr) (ce : Cell), H[q]? = some ce → ce.vm = .none → s.vm.findClass E = some ce.cls →
        ∀ T : State, T.heap = H → Stand p C.1 e (xR C) s m args below meth c T locs k n → ∃ t, Steps p.tables e below ((T.setTop (F0 m pc ls st)).pushFrame (.throwing q)) t ∧ xEnd C below s t
def xGo (C : xCt) (M : xMt) (pc : Nat) (M' : xMt) (av rest st : List Value) (h : xH) (k n : Nat) : Prop :=
  ∀ (p : Program) (e : Env) (s : State) (m : MethodId) (args : Array Value) (below : List Frame) (meth : Method) (c : Code), xC C M p e s m args below meth c →
    ∀ (H : Heap) (locs : List Loc) (ls : Array Slot), xRep C.2.1 h H → ∀ T : State, T.heap = H → Stand p C.1 e (xR C) s m args below meth c T locs k n →
      ∃ (mk : MethodId) (vm₁ : Vm), s.methodNamed? M'.1 = some mk ∧ s.WarmedH vm₁ ∧ Stand p C.1 e (xR C) s m args below meth c (T.setVm vm₁) locs k n ∧
        ∀ target, (∀ acts, Steps p.tables e below (doInvoke e ((T.setVm vm₁).setTop (F0 m pc ls rest)) acts mk av.toArray).1 target) → Steps p.tables e below (T.setTop (F0 m pc ls st)) target
section XCALL
variable {C : xCt} {M : xMt} {pc : Nat} {L : List (Option Value)} {st : List Value} {h : xH} {k n : Nat}
theorem ex_call {M' : xMt} {d' mc' ms' : Nat} {av rest : List Value} {Q' : xO → xH → Prop} {ig : Instr} (hd : decode M.2.1 pc = .ok (ig, 3)) (go : xGo C M pc M' av rest st h k n) (hc : xCode M') (hM : xMet C.1 C.2.1 M' d' mc' ms' av h Q') (hdd : d' + 1 ≤ C.2.2.1) (hw : (rest.map fun v => v.category).sum ≤ 16) (hk : k + mc' ≤ C.2.2.2.1) (hn : n + ms' ≤ C.2.2.2.2.1)
    (kk : ∀ (v : Option Value) (h' : xH), Q' (.inl v) h' → Ex C M (pc + 3) L (v.toList ++ rest) h' (k + mc') (n + ms')) (kx : ∀ (E : String) (h' : xH), Q' (.inr E) h' → ExX C M pc L rest E h' (k + mc') (n + ms')) : Ex C M pc L st h k n := by
  intro p e s m args below meth c X H locs ls hL hR hS T hT XS
  obtain ⟨mk, vm₁, hnm, hW1, X1, stp⟩ := go p e s m args below meth c X H locs ls hR T hT XS
  have XX := X
  obtain ⟨hx, hb, hml, hown, -, -, -, -, hstt, hK, hts, hR0, hZ0, hT0⟩ := X
  have hKs : xK C.2.1 s := ⟨hK, fun w hw => xwk_at (State.WarmedH.refl s) (xTAB_k w hw) (hts w hw), hT0⟩
  have hK1 : xK C.2.1 (T.setVm vm₁) := xK_moved hW1 hKs
  have hR1 : xRep C.2.1 h (T.setVm vm₁).heap := by show xRep _ _ T.heap; rw [hT]; exact hR
  have hZ1 : xZ C.2.1 h (T.setVm vm₁) (T.setVm vm₁).heap := by show xZ _ _ _ T.heap; rw [hT]; exact xZ_at hZ0 hS hW1.alike
  obtain ⟨xo, h', T', L9, hQ, hR', X', hS', hst9⟩ := xcore X1 hM hc (g := F0 m pc ls rest) rfl (hL.1.trans hml.symm) (by rw [hb]; exact hd) (by show 2 * 0 + (rest.map fun v => v.category).sum ≤ 16; omega) (X1.named hnm) hstt hK1 hR1 hZ1 (by show _ ≤ C.2.2.1 + 8; omega) (by show _ ≤ 64 * C.2.2.1 + 200; omega) hk hn
  have hTH : (T.setVm vm₁).heap = H := hT
  rw [hTH] at hS'
  have hSn := xS_trans hS hS'
  cases xo with
  | inl v =>
    obtain ⟨t, a, b⟩ := kk v h' hQ p e s m args below meth c XX T'.heap (locs ++ L9) ls hL hR' hSn T' rfl X'
    exact ⟨t, stp t (fun acts => by rw [doInvoke_state]; exact hst9.trans a), b⟩
  | inr E =>
    obtain ⟨q, ce, hce, hcv, hcl, hs9⟩ := hst9
    have hcl' : s.vm.findClass E = some ce.cls := by
      have h1 : vm₁.findClass E = some ce.cls := hcl
      rw [hW1.alike.findClass] at h1
      exact h1
    obtain ⟨t, a, b⟩ := kx E h' hQ p e s m args below meth c XX T'.heap (locs ++ L9) ls hL hR' hSn q ce hce hcv hcl' T' rfl X'
    exact ⟨t, (stp _ (fun acts => by rw [doInvoke_state]; exact hs9)).trans a, b⟩
/-- a call of which Q' allows no throw -/
theorem ex_callR {M' : xMt} {d' mc' ms' : Nat} {av rest : List Value} {Q' : xO → xH → Prop} {ig : Instr} (hd : decode M.2.1 pc = .ok (ig, 3)) (go : xGo C M pc M' av rest st h k n) (hc : xCode M') (hM : xMet C.1 C.2.1 M' d' mc' ms' av h Q') (hdd : d' + 1 ≤ C.2.2.1) (hw : (rest.map fun v => v.category).sum ≤ 16) (hk : k + mc' ≤ C.2.2.2.1) (hn : n + ms' ≤ C.2.2.2.2.1)
    (hx : ∀ (E : String) (h' : xH), ¬ Q' (.inr E) h') (kk : ∀ (v : Option Value) (h' : xH), Q' (.inl v) h' → Ex C M (pc + 3) L (v.toList ++ rest) h' (k + mc') (n + ms')) : Ex C M pc L st h k n :=
  ex_call hd go hc hM hdd hw hk hn kk (fun E h' q => absurd q (hx E h'))
end XCALL
/-! how the callee is found -/
/-- invokevirtual, on an object of the class ci itself; or of a private method of a nest mate -/
def xVi (own : String) (idx : Nat) (M' : xMt) (ci : Nat) : Prop :=
  ∃ (Cn : String) (T : u_T) (N : Nat), xcl[ci]? = some (Cn, T, N) ∧ (Cond.methodLink own idx M'.1 ∈ xTAB ∨ ∃ host, Cond.methodLinkNest own idx M'.1 host ∈ xTAB) ∧ Cond.instanceMethod M'.1 ∈ xTAB ∧ Cond.selects Cn M'.1 M'.1 ∈ xTAB ∧ (M'.1.cls ≠ "java/lang/invoke/MethodHandle" ∧ M'.1.cls ≠ "java/lang/invoke/VarHandle")
/-- invokevirtual of a method that the reference names as x, declared by owner, and the class ci has as M' -/
def xUi (own : String) (idx : Nat) (M' : xMt) (ci : Nat) : Prop :=
  ∃ (Cn : String) (T : u_T) (N : Nat) (x : MethodName) (owner : String), xcl[ci]? = some (Cn, T, N) ∧ Cond.methodLink own idx x ∈ xTAB ∧ Cond.sameMethod x.cls owner x.name x.desc ∈ xTAB ∧ x.desc = M'.1.desc ∧
    (Cond.declares ⟨owner, x.name, x.desc⟩ ∈ xTAB ∨ (M'.1 = ⟨owner, x.name, x.desc⟩)) ∧ (owner ≠ "java/lang/invoke/MethodHandle" ∧ owner ≠ "java/lang/invoke/VarHandle") ∧ Cond.selects Cn x M'.1 ∈ xTAB ∧ Cond.instanceMethod M'.1 ∈ xTAB
def xIi (own : String) (idx : Nat) (M' : xMt) : Prop :=
  (Cond.methodLink own idx M'.1 ∈ xTAB ∨ ∃ host, Cond.methodLinkNest own idx M'.1 host ∈ xTAB) ∧ Cond.instanceMethod M'.1 ∈ xTAB ∧ M'.1.name = "<init>" ∧ (M'.1.cls ≠ "java/lang/invoke/MethodHandle" ∧ M'.1.cls ≠ "java/lang/invoke/VarHandle") ∧ M'.2.2.2.1 = none ∧ M'.2.2.2.2 = [] ∧ Cond.code M'.1 M'.2.1 M'.2.2.1 M'.2.2.2.1 ∈ xTAB
def xSi (own : String) (idx : Nat) (M' : xMt) : Prop :=
  (Cond.methodLink own idx M'.1 ∈ xTAB ∨ ∃ host, Cond.methodLinkNest own idx M'.1 host ∈ xTAB) ∧ Cond.static M'.1 ∈ xTAB ∧ (M'.1.cls ≠ "java/lang/invoke/MethodHandle" ∧ M'.1.cls ≠ "java/lang/invoke/VarHandle")
def xAr (M' : xMt) (j : Nat) : Prop := (parseMethodDescriptor M'.1.desc).map (fun d => d.parameters.length) = some j
theorem xAr_len {M' : xMt} {j : Nat} (h : xAr M' j) : ∀ sig, parseMethodDescriptor M'.1.desc = some sig → j = sig.parameters.length := fun sig hs => by
  unfold xAr at h
  rw [hs] at h
  exact (Option.some.inj h).symm
section XGO
variable {C : xCt} {M : xMt} {pc : Nat} {h : xH} {k n : Nat} {rest : List Value}
theorem xC_K {p : Program} {e : Env} {s : State} {m : MethodId} {args : Array Value} {below : List Frame} {meth : Method} {c : Code} (X : xC C M p e s m args below meth c) : xK C.2.1 s := ⟨X.2.2.2.2.2.2.2.2.2.1, fun w hw => xwk_at (State.WarmedH.refl s) (xTAB_k w hw) (X.2.2.2.2.2.2.2.2.2.2.1 w hw), X.2.2.2.2.2.2.2.2.2.2.2.2.2⟩
theorem go_v {idx ci b : Nat} {fs As : List Value} {M' : xMt} {j : Nat} (hd : decode M.2.1 pc = .ok (.invokevirtual idx, 3)) (hi : xVi M.1.cls idx M' ci) (hc : xCode M') (ha : xAr M' j) (hb : h.2 b = some (.inr (ci, fs))) (hj : As.length = j) : xGo C M pc M' (.ref b :: As) rest (As.reverse ++ .ref b :: rest) h k n := by
  intro p e s m args below meth c X H locs ls hR T hT XS
  have hKs := xC_K X
  obtain ⟨hx, hb9, hml, hown, -, -, -, -, hstt, hK, hts, -⟩ := X
  obtain ⟨Cn, Tt, N, hcl, hlink, hinst, hsel, hy⟩ := hi
  obtain ⟨mk, methM, hnamed, hmethM, hstM, habM⟩ := Cond.instanceMethod_spec (hts _ hinst)
  obtain ⟨m8, methM', cM, hn8, hmethM', -, -, -, -, -, -, hsigM⟩ := Cond.codeWith_spec (xCode_at (a := args) hc hKs)
  cases Option.some.inj (hn8.symm.trans hnamed)
  cases hmethM.symm.trans hmethM'
  obtain ⟨c2, r2, m2, q1, q2, q3, q4, kP, hkP, hkPi⟩ := Cond.selects_spec (hts _ hsel)
  obtain ⟨r, h1, cellB, g1, g2, g3, -⟩ := hR.2 b _ hb
  have hcls : s.vm.findClass Cn = some cellB.cls := by rw [g2]; exact (hK.1 ci _ hcl).2.1
  cases hcls.symm.trans q1
  cases (State.methodFound?_of_named hnamed hy).symm.trans q2
  cases hnamed.symm.trans q3
  have hselP : selectMethod e.platform s.vm cellB.cls mk = .method mk := by rw [Launch.admits_selectMethod XS.admits]; exact q4
  have hcell : T.heap[b]? = some cellB := by rw [hT]; exact g1
  have hlen := hj.trans (xAr_len ha _ hsigM)
  rcases hlink with hlink | ⟨host, hlink⟩
  · obtain ⟨vm₁, X₁, hstep₁⟩ := XS.invokevirtual hx hown (hts _ hlink) hnamed hmethM hstM hkP hkPi hy (a := b) (cell := cellB) hcell
      (fun z hz => by rw [g3] at hz; cases hz) hselP hmethM habM hkP hkPi (g := F0 m pc ls (As.reverse ++ .ref b :: rest)) rfl (argsL := As) (rest := rest) hlen rfl (by rw [hb9]; exact hd)
    exact ⟨mk, vm₁, hnamed, X₁.warmed, X₁, hstep₁⟩
  · obtain ⟨vm₁, X₁, hstep₁⟩ := XS.invokevirtualNest hx hown (hts _ hlink) hnamed hmethM hstM hkP hkPi hy (a := b) (cell := cellB) hcell
      (fun z hz => by rw [g3] at hz; cases hz) hselP hmethM habM hkP hkPi (g := F0 m pc ls (As.reverse ++ .ref b :: rest)) rfl (argsL := As) (rest := rest) hlen rfl (by rw [hb9]; exact hd)
    exact ⟨mk, vm₁, hnamed, X₁.warmed, X₁, hstep₁⟩
theorem go_u {idx ci b : Nat} {fs As : List Value} {M' : xMt} {j : Nat} (hd : decode M.2.1 pc = .ok (.invokevirtual idx, 3)) (hi : xUi M.1.cls idx M' ci) (hc : xCode M') (ha : xAr M' j) (hb : h.2 b = some (.inr (ci, fs))) (hj : As.length = j) : xGo C M pc M' (.ref b :: As) rest (As.reverse ++ .ref b :: rest) h k n := by
  intro p e s m args below meth c X H locs ls hR T hT XS
  have hKs := xC_K X
  obtain ⟨hx, hb9, hml, hown, -, -, -, -, hstt, hK, hts, -⟩ := X
  obtain ⟨Cn, Tt, N, x9, owner, hcl, hlink, hsame, hdesc, hdecl, howner, hsel, hinst⟩ := hi
  obtain ⟨mk, methM, hnamed, hmethM, hstM, habM⟩ := Cond.instanceMethod_spec (hts _ hinst)
  obtain ⟨m8, methM', cM, hn8, hmethM', -, -, -, -, -, -, hsigM⟩ := Cond.codeWith_spec (xCode_at (a := args) hc hKs)
  cases Option.some.inj (hn8.symm.trans hnamed)
  cases hmethM.symm.trans hmethM'
  have hd0 : va_Decl s ⟨owner, x9.name, x9.desc⟩ := by
    rcases hdecl with h1 | h1
    · obtain ⟨m5, meth5, g1, g2, g3, g4⟩ := Cond.declares_spec (hts _ h1)
      exact ⟨m5, meth5, g1, g2, g3, g4⟩
    · rw [← h1]
      exact ⟨mk, methM, hnamed, hmethM, hstM, hsigM⟩
  obtain ⟨r0, r, hn, hrm, hstR, hsigR⟩ := hd0
  obtain ⟨cn, ck, r1, hcn, hck, hni, hf, hn1⟩ := Cond.sameMethod_found (hts _ hsame)
  cases hn.symm.trans hn1
  obtain ⟨c2, r2, m2, q1, q2, q3, q4, kP, hkP, hkPi⟩ := Cond.selects_spec (hts _ hsel)
  obtain ⟨r9, h1, cellB, g1, g2, g3, -⟩ := hR.2 b _ hb
  have hcls : s.vm.findClass Cn = some cellB.cls := by rw [g2]; exact (hK.1 ci _ hcl).2.1
  cases hcls.symm.trans q1
  cases hf.symm.trans q2
  cases hnamed.symm.trans q3
  have hselP : selectMethod e.platform s.vm cellB.cls r0 = .method mk := by rw [Launch.admits_selectMethod XS.admits]; exact q4
  have hcell : T.heap[b]? = some cellB := by rw [hT]; exact g1
  have hlen : As.length = r.sig.parameters.length := hj.trans (xAr_len ha _ (by rw [← hdesc]; exact hsigR))
  obtain ⟨vm₁, X₁, hstep₁⟩ := XS.invokevirtualUp hx hown (hts _ hlink) (hts _ hsame) howner hn hrm hstR (a := b) (cell := cellB) hcell
    (fun z hz => by rw [g3] at hz; cases hz) hselP hmethM habM hkP hkPi (g := F0 m pc ls (As.reverse ++ .ref b :: rest)) rfl (argsL := As) (rest := rest) hlen rfl (by rw [hb9]; exact hd)
  exact ⟨mk, vm₁, hnamed, X₁.warmed, X₁, hstep₁⟩
theorem go_i {idx b : Nat} {As : List Value} {M' : xMt} {j : Nat} (hd : decode M.2.1 pc = .ok (.invokespecial idx, 3)) (hi : xIi M.1.cls idx M') (ha : xAr M' j) (hj : As.length = j) : xGo C M pc M' (.ref b :: As) rest (As.reverse ++ .ref b :: rest) h k n := by
  intro p e s m args below meth c X H locs ls hR T hT XS
  obtain ⟨hx, hb9, hml, hown, -, -, -, -, hstt, hK, hts, -⟩ := X
  obtain ⟨hlink, hinst, hy1, hy, hr9, hh9, hcode⟩ := hi
  have hpl : e.platform.magicAccessors = ({} : Platform).magicAccessors := by rw [XS.admits.platform]
  have hcd : (Cond.code M'.1 M'.2.1 M'.2.2.1 none).before args s = true := by rw [← hr9]; exact hts _ hcode
  have hlen : ∀ sig, parseMethodDescriptor M'.1.desc = some sig → As.length = sig.parameters.length := fun sig hs => hj.trans (xAr_len ha _ hs)
  rcases hlink with hlink | ⟨host, hlink⟩
  · obtain ⟨mk, methM, cM, kP, vm₁, hnamed, hmethM, hcodeM, -, hlocalsM, -, hkP, -, hW₁, hstep₁⟩ := Steps.initColdArgs (e := e) XS.here hx XS.warmed hpl hown hy1 hy (hts _ hlink) (hts _ hinst) hcd (f := F0 m pc ls (As.reverse ++ .ref b :: rest)) rfl hlen rfl (by rw [hb9]; exact hd)
    exact ⟨mk, vm₁, hnamed, hW₁, XS.noted hW₁, hstep₁⟩
  · obtain ⟨mk, methM, cM, kP, vm₁, hnamed, hmethM, hcodeM, -, hlocalsM, -, hkP, -, hW₁, hstep₁⟩ := Steps.initColdArgsNest (e := e) XS.here hx XS.warmed hpl hown hy1 hy (hts _ hlink) (hts _ hinst) hcd (f := F0 m pc ls (As.reverse ++ .ref b :: rest)) rfl hlen rfl (by rw [hb9]; exact hd)
    exact ⟨mk, vm₁, hnamed, hW₁, XS.noted hW₁, hstep₁⟩
theorem go_s {idx : Nat} {As : List Value} {M' : xMt} {j : Nat} (hd : decode M.2.1 pc = .ok (.invokestatic idx, 3)) (hi : xSi M.1.cls idx M') (hc : xCode M') (ha : xAr M' j) (hj : As.length = j) : xGo C M pc M' As rest (As.reverse ++ rest) h k n := by
  intro p e s m args below meth c X H locs ls hR T hT XS
  have hKs := xC_K X
  obtain ⟨hx, hb9, hml, hown, -, -, -, -, hstt, hK, hts, -⟩ := X
  obtain ⟨hlink, hstat, hy⟩ := hi
  obtain ⟨mk, methM, cM, hnamed, hmethM, -, -, -, -, -, -, hsigM⟩ := Cond.codeWith_spec (xCode_at (a := args) hc hKs)
  have hstatic : methM.isStatic = true := Cond.static_spec hnamed hmethM (hts _ hstat)
  obtain ⟨kP, hkP, -⟩ := className_of_methodNamed hnamed
  have hinitP : kP.init = .initialized := Cond.initialized_spec (findClass_of_methodNamed hnamed) hkP (hts _ hc.2.1)
  have hlen := hj.trans (xAr_len ha _ hsigM)
  rcases hlink with hlink | ⟨host, hlink⟩
  · obtain ⟨vm₁, X₁, hstep₁⟩ := XS.invokestatic hx hown (hts _ hlink) hnamed hmethM hstatic hkP hinitP hy (g := F0 m pc ls (As.reverse ++ rest)) rfl (argsL := As) (rest := rest) hlen rfl (by rw [hb9]; exact hd)
    exact ⟨mk, vm₁, hnamed, X₁.warmed, X₁, hstep₁⟩
  · obtain ⟨vm₁, X₁, hstep₁⟩ := XS.invokestaticNest hx hown (hts _ hlink) hnamed hmethM hstatic hkP hinitP hy (g := F0 m pc ls (As.reverse ++ rest)) rfl (argsL := As) (rest := rest) hlen rfl (by rw [hb9]; exact hd)
    exact ⟨mk, vm₁, hnamed, X₁.warmed, X₁, hstep₁⟩
end XGO
