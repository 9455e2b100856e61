/-! Catching: a handler table of one or two rows; the rows' classes may still be open in the pool. -/
section XCATCH
def xFT (e : Env) (S : State) (f : JFrame) (a : Addr) (h : Handler) (vm' : Vm) : Prop :=
  ∀ (Q : Handler → Pre) (E : CtlPost) (d : Bool) (acts : List Action), wp (findHandler f a) Q E e d acts S ↔ Q h d acts (S.setVm vm')
theorem xrow_yes {Q : Handler → Pre} {E : CtlPost} {e : Env} {d : Bool} {acts : List Action} {s : State} {f : JFrame} {a : Addr} {x : ExceptionTableEntry} {t : List ExceptionTableEntry} {c : ClassId} {cell : Cell} (hx : covers x f.pc = true) (h0 : x.catchType ≠ 0)
    (hl : s.vm.ClassLinks e.platform f.method.cls x.catchType c) (hcell : s.heap[a]? = some cell) (hobj : ∀ k, cell.vm ≠ .statics k) (hk : ∃ k, s.vm.classes[cell.cls]? = some k) (hc : ∃ k, s.vm.classes[c]? = some k) (hfit : s.vm.assignable cell.cls c = true) :
    wp (findHandler.go f a (x :: t)) Q E e d acts s ↔ Q (.found x.handlerPc) d acts (s.setVm (s.vm.noted f.method.cls x.catchType (.cls c))) := by
  simp only [covers] at hx
  obtain ⟨ha, ht⟩ := (resolveClass_links e.toSetting hl).op (op := VmOp.resolveClass f.method.cls x.catchType) rfl
  have hal : s.vm.Alike (s.vm.noted f.method.cls x.catchType (.cls c)) := (Vm.Alike.refl s.vm).noted _ _ _
  obtain ⟨k1, hk1⟩ := hk
  obtain ⟨k2, hk2⟩ := hc
  obtain ⟨k1', hk1', -⟩ := hal.2.2 _ _ hk1
  obtain ⟨k2', hk2', -⟩ := hal.2.2 _ _ hk2
  have hfit' : (s.vm.noted f.method.cls x.catchType (.cls c)).assignable cell.cls c = true := by rw [hal.assignable]; exact hfit
  simp [findHandler.go, hx, h0, ha, ht, hcell, hobj, hk1', hk2', hfit', VmOp.dirties, VmOp.acts]
theorem xrow_no {Q : Handler → Pre} {E : CtlPost} {e : Env} {d : Bool} {acts : List Action} {s : State} {f : JFrame} {a : Addr} {x : ExceptionTableEntry} {t : List ExceptionTableEntry} {c : ClassId} {cell : Cell} (hx : covers x f.pc = true) (h0 : x.catchType ≠ 0)
    (hl : s.vm.ClassLinks e.platform f.method.cls x.catchType c) (hcell : s.heap[a]? = some cell) (hobj : ∀ k, cell.vm ≠ .statics k) (hk : ∃ k, s.vm.classes[cell.cls]? = some k) (hc : ∃ k, s.vm.classes[c]? = some k) (hno : s.vm.assignable cell.cls c = false) :
    wp (findHandler.go f a (x :: t)) Q E e d acts s ↔ wp (findHandler.go f a t) Q E e d acts (s.setVm (s.vm.noted f.method.cls x.catchType (.cls c))) := by
  simp only [covers] at hx
  obtain ⟨ha, ht⟩ := (resolveClass_links e.toSetting hl).op (op := VmOp.resolveClass f.method.cls x.catchType) rfl
  have hal : s.vm.Alike (s.vm.noted f.method.cls x.catchType (.cls c)) := (Vm.Alike.refl s.vm).noted _ _ _
  obtain ⟨k1, hk1⟩ := hk
  obtain ⟨k2, hk2⟩ := hc
  obtain ⟨k1', hk1', -⟩ := hal.2.2 _ _ hk1
  obtain ⟨k2', hk2', -⟩ := hal.2.2 _ _ hk2
  have hno' : (s.vm.noted f.method.cls x.catchType (.cls c)).assignable cell.cls c = false := by rw [hal.assignable]; exact hno
  simp [findHandler.go, hx, h0, ha, ht, hcell, hobj, hk1', hk2', hno', VmOp.dirties, VmOp.acts]
theorem xcaught {tb : Tables} {e : Env} {s target : State} {g : JFrame} {c : Code} {below : List Frame} {a : Addr} (h : At s g.method c below) {pc : Nat} {vm' : Vm}
    (hfind : xFT e ((s.setTop g).pushFrame (.throwing a)) g a (.found pc) vm') (hrest : Steps tb e below ((s.setVm vm').setTop { g with pc := pc, stack := [.ref a] }) target) :
    Steps tb e below ((s.setTop g).pushFrame (.throwing a)) target := by
  obtain ⟨hgo, hw⟩ := h.throwing a
  have hstep : (stepThrowing e ((s.setTop g).pushFrame (.throwing a)) a (.java g :: s.frames.tail)).Is ((((s.setTop g).pushFrame (.throwing a)).setVm vm').setFrames (.java { g with pc := pc, stack := [.ref a] } :: s.frames.tail)) [] := by
    simp only [stepThrowing, searchFrame, vmDo]
    generalize hr : Sem.go _ e false [] ((s.setTop g).pushFrame (.throwing a)) = res
    obtain ⟨as, rfl, ha⟩ := Sem.eq_ok_of hr (a := Handler.found pc) (s' := ((s.setTop g).pushFrame (.throwing a)).setVm vm') (acts' := []) (by simp [hfind _ _ _ _])
    exact ⟨rfl, ha⟩
  refine Steps.head hgo hw ?_
  rw [stepThread_throwing (frames_entered h.top _), hstep.1]
  obtain ⟨g₀, hg⟩ := Option.isSome_iff_exists.mp h.top
  obtain ⟨r, hr⟩ := State.topJava?_eq_some.mp hg
  have hr' : (s.setVm vm').frames = .java g₀ :: r := hr
  have hh : ∀ (u : State) (F G : List Frame), ((u.setFrames F).setVm vm').setFrames G = (u.setVm vm').setFrames G := fun u F G => by
    have h1 : (u.setFrames F).setVm vm' = (u.setVm vm').setFrames F := rfl
    rw [h1, State.setFrames_setFrames]
  rw [State.setTop_of_frames _ hr'] at hrest
  rw [hr, List.tail_cons, State.pushFrame, hh, State.setTop_of_frames _ hr, hh]
  exact hrest
variable {C : xCt} {M : xMt} {pc : Nat} {L : List (Option Value)} {st : List Value} {h : xH} {k n : Nat}
theorem ex_catch1 {E nm : String} {a0 b0 p0 t0 : Nat} {tl : List (Nat × Nat × Nat × Nat)} (hh : M.2.2.2.2 = (a0, b0, p0, t0) :: tl) (hc : a0 ≤ pc ∧ pc < b0) (h0 : t0 ≠ 0) (hl : Cond.classLink M.1.cls t0 nm ∈ xTAB) (hk : Cond.castable E nm ∈ xTAB) (kk : ∀ q : Nat, Ex C M p0 L [.ref q] h k n) : ExX C M pc L st E h k n := by
  intro p e s m args below meth c X H locs ls hL hR hS q ce hce hcv hcl T hT XS
  have kk := kk q p e s m args below meth c X H locs ls hL hR hS
  obtain ⟨hx, hb, hml, hown, -, -, -, htab, -, hK, hts, -⟩ := X
  have hpl : e.platform.magicAccessors = ({} : Platform).magicAccessors := by rw [XS.admits.platform]
  obtain ⟨c3, c4, hc3, hc4, hasg⟩ := Cond.castable_spec (hts _ hk)
  cases Option.some.inj (hc3.symm.trans hcl)
  obtain ⟨c5, hc5, hcl5⟩ := Cond.classLink_spec hown (hts _ hl) e.platform hpl
  cases Option.some.inj (hc4.symm.trans hc5)
  have hal := XS.warmed.alike
  obtain ⟨dk, _, _, kt, hd, _, _, _, _, hkt, _, hopen⟩ := hcl5.here
  obtain ⟨kt', hkt', -⟩ := hal.2.2 _ _ hkt
  obtain ⟨ke, hke, -⟩ := Vm.findClass_spec hcl
  obtain ⟨ke', hke', -⟩ := hal.2.2 _ _ hke
  have htl : c.exceptionTable.toList = (⟨a0, b0, p0, t0⟩ : ExceptionTableEntry) :: tableOf tl := by
    rw [← table_eq c.exceptionTable.toList, htab, hh]; rfl
  have hfind : xFT e ((T.setTop (F0 m pc ls st)).pushFrame (.throwing q)) (F0 m pc ls st) q (.found p0) (T.vm.noted m.cls t0 (.cls c4)) := by
    intro Q E9 d acts
    rw [W.findHandler_eq (f := F0 m pc ls st) (s := (T.setTop (F0 m pc ls st)).pushFrame (.throwing q)) (meth := meth) (code := c) XS.method' XS.code, htl]
    exact xrow_yes (f := F0 m pc ls st) (s := (T.setTop (F0 m pc ls st)).pushFrame (.throwing q)) (x := ⟨a0, b0, p0, t0⟩) (by simp only [covers]; simp [hc.1, hc.2]) h0 (XS.warmed.classLinks hcl5) (by show T.heap[q]? = some ce; rw [hT]; exact hce) (fun k9 h9 => by rw [hcv] at h9; cases h9) ⟨ke', hke'⟩ ⟨kt', hkt'⟩ (by show T.vm.assignable _ _ = true; rw [hal.assignable]; exact hasg)
  have X' := XS.noted (XS.warmed.noted hd hopen (State.rightAt_cls hcl5))
  obtain ⟨t, a1, b1⟩ := kk (T.setVm (T.vm.noted m.cls t0 (.cls c4))) hT X'
  exact ⟨t, xcaught (g := F0 m pc ls st) XS.here hfind a1, b1⟩
theorem ex_catch2 {E nm nm2 : String} {a0 b0 p0 t0 a1 b1 p1 t1 : Nat} {tl : List (Nat × Nat × Nat × Nat)} (hh : M.2.2.2.2 = (a0, b0, p0, t0) :: (a1, b1, p1, t1) :: tl) (hc : a0 ≤ pc ∧ pc < b0) (h0 : t0 ≠ 0) (hl : Cond.classLink M.1.cls t0 nm ∈ xTAB) (hno : E = "java/lang/IllegalStateException" ∧ nm = "java/lang/IllegalArgumentException")
    (hc2 : a1 ≤ pc ∧ pc < b1) (h1 : t1 ≠ 0) (hl2 : Cond.classLink M.1.cls t1 nm2 ∈ xTAB) (hk : Cond.castable E nm2 ∈ xTAB) (kk : ∀ q : Nat, Ex C M p1 L [.ref q] h k n) : ExX C M pc L st E h k n := by
  intro p e s m args below meth c X H locs ls hL hR hS q ce hce hcv hcl T hT XS
  have kk := kk q p e s m args below meth c X H locs ls hL hR hS
  obtain ⟨hx, hb, hml, hown, -, -, -, htab, -, hK, hts, -, -, hT0⟩ := X
  have hpl : e.platform.magicAccessors = ({} : Platform).magicAccessors := by rw [XS.admits.platform]
  obtain ⟨c3, c4, hc3, hc4, hasg⟩ := Cond.castable_spec (hts _ hk)
  cases Option.some.inj (hc3.symm.trans hcl)
  obtain ⟨c5, hc5, hcl5⟩ := Cond.classLink_spec hown (hts _ hl2) e.platform hpl
  cases Option.some.inj (hc4.symm.trans hc5)
  obtain ⟨c6, hc6, hcl6⟩ := Cond.classLink_spec hown (hts _ hl) e.platform hpl
  obtain ⟨e1, n1, f1, f2, f3⟩ := hT0.2
  rw [hno.1] at hcl
  rw [hno.2] at hc6
  cases Option.some.inj (f1.symm.trans hcl)
  cases Option.some.inj (f2.symm.trans hc6)
  have hal := XS.warmed.alike
  obtain ⟨dk, _, _, kt, hd, _, _, _, _, hkt, _, hopen⟩ := hcl5.here
  obtain ⟨dk2, _, _, kt2, hd2, _, _, _, _, hkt2, _, hopen2⟩ := hcl6.here
  obtain ⟨ke, hke, -⟩ := Vm.findClass_spec hcl
  have htl : c.exceptionTable.toList = (⟨a0, b0, p0, t0⟩ : ExceptionTableEntry) :: (⟨a1, b1, p1, t1⟩ : ExceptionTableEntry) :: tableOf tl := by
    rw [← table_eq c.exceptionTable.toList, htab, hh]; rfl
  have hW1 : s.WarmedH (T.vm.noted m.cls t0 (.cls c6)) := XS.warmed.noted hd2 hopen2 (State.rightAt_cls hcl6)
  have hW2 : s.WarmedH ((T.vm.noted m.cls t0 (.cls c6)).noted m.cls t1 (.cls c4)) := hW1.noted hd hopen (State.rightAt_cls hcl5)
  have hfind : xFT e ((T.setTop (F0 m pc ls st)).pushFrame (.throwing q)) (F0 m pc ls st) q (.found p1) ((T.vm.noted m.cls t0 (.cls c6)).noted m.cls t1 (.cls c4)) := by
    intro Q E9 d acts
    obtain ⟨ke', hke', -⟩ := hal.2.2 _ _ hke
    obtain ⟨kt2', hkt2', -⟩ := hal.2.2 _ _ hkt2
    obtain ⟨ke3, hke3, -⟩ := hW1.alike.2.2 _ _ hke
    obtain ⟨kt3, hkt3, -⟩ := hW1.alike.2.2 _ _ hkt
    rw [W.findHandler_eq (f := F0 m pc ls st) (s := (T.setTop (F0 m pc ls st)).pushFrame (.throwing q)) (meth := meth) (code := c) XS.method' XS.code, htl]
    rw [xrow_no (f := F0 m pc ls st) (s := (T.setTop (F0 m pc ls st)).pushFrame (.throwing q)) (x := ⟨a0, b0, p0, t0⟩) (cell := ce) (c := c6) (by simp only [covers]; simp [hc.1, hc.2]) h0 (XS.warmed.classLinks hcl6) (by show T.heap[q]? = some ce; rw [hT]; exact hce) (fun k9 h9 => by rw [hcv] at h9; cases h9) ⟨ke', hke'⟩ ⟨kt2', hkt2'⟩ (by show T.vm.assignable _ _ = false; rw [hal.assignable]; exact f3)]
    exact xrow_yes (f := F0 m pc ls st) (s := ((T.setTop (F0 m pc ls st)).pushFrame (.throwing q)).setVm (T.vm.noted m.cls t0 (.cls c6))) (x := ⟨a1, b1, p1, t1⟩) (cell := ce) (by simp only [covers]; simp [hc2.1, hc2.2]) h1 (hW1.classLinks hcl5) (by show T.heap[q]? = some ce; rw [hT]; exact hce) (fun k9 h9 => by rw [hcv] at h9; cases h9) ⟨ke3, hke3⟩ ⟨kt3, hkt3⟩ (by show (T.vm.noted m.cls t0 (.cls c6)).assignable _ _ = true; rw [hW1.alike.assignable]; exact hasg)
  have X' := XS.noted hW2
  obtain ⟨t, a9, b9⟩ := kk (T.setVm ((T.vm.noted m.cls t0 (.cls c6)).noted m.cls t1 (.cls c4))) hT X'
  exact ⟨t, xcaught (g := F0 m pc ls st) XS.here hfind a9, b9⟩
end XCATCH
