/-! The judgement Ex and its rows that touch the heap. -/
def xK (G : xG) (U : State) : Prop := va_K G.1 xcl (xtys G) U ∧ (∀ w ∈ xTAB, w.before #[] U = true) ∧ xT U
/-- what lies outside the method's own cells and is only read -/
def xZ (G : xG) (h : xH) (U : State) (H : Heap) : Prop :=
  (∀ (a : Nat) (b : Nat × (Nat → Int32)), G.2.2 a = some b → va_X a b.1 b.2 U H ∧ ¬ xA h a) ∧ xZs G (xA h) U H
def xR (C : xCt) : Room := { frames := C.2.2.1 + 8, cells := C.2.2.2.1, slots := C.2.2.2.2.1, locals := 64 * C.2.2.1 + 200 }
def xC (C : xCt) (M : xMt) (p : Program) (_ : Env) (s : State) (m : MethodId) (args : Array Value) (_ : List Frame) (meth : Method) (c : Code) : Prop :=
  p.tables.exec = Jvm.exec ∧ c.code = M.2.1 ∧ c.maxLocals = M.2.2.1 ∧ s.vm.findClass M.1.cls = some m.cls ∧ meth.sig.returnType = M.2.2.2.1 ∧ meth.locks = false ∧ meth.name = M.1.name ∧ c.exceptionTable.toList.map (fun h => (h.startPc, h.endPc, h.handlerPc, h.catchType)) = M.2.2.2.2 ∧
  C.1.stackTraces = false ∧ va_K C.2.1.1 xcl (xtys C.2.1) s ∧ (∀ w ∈ xTAB, w.before args s = true) ∧ xRep C.2.1 C.2.2.2.2.2.1 s.heap ∧ xZ C.2.1 C.2.2.2.2.2.1 s s.heap ∧ xT s
def xOut (s : State) (xo : xO) (o : Outcome) (t : State) : Prop := match xo with
  | .inl v => o = .returned v
  | .inr E => ∃ (q : Addr) (ce : Cell), o = .threw q ∧ t.heap[q]? = some ce ∧ ce.vm = .none ∧ s.vm.findClass E = some ce.cls
def xPost (G : xG) (mc ms : Nat) (h0 : xH) (Q : xO → xH → Prop) (s : State) (o : Outcome) (t : State) : Prop :=
  ∃ (xo : xO) (h' : xH), Q xo h' ∧ xOut s xo o t ∧ xRep G h' t.heap ∧ s.WarmedH t.vm ∧ ∃ locs : List Loc, xS h0 s.heap h' t.heap locs ∧ s.sameButNew ({ t with vm := s.vm } : State) locs mc ms
def xEnd (C : xCt) (below : List Frame) (s : State) : State → Prop := fun t => ∃ o, t.status = .running ∧ Ended t below o ∧ xPost C.2.1 C.2.2.2.1 C.2.2.2.2.1 C.2.2.2.2.2.1 C.2.2.2.2.2.2 s o t
def Ex (C : xCt) (M : xMt) (pc : Nat) (L : List (Option Value)) (st : List Value) (h : xH) (k n : Nat) : Prop :=
  ∀ (p : Program) (e : Env) (s : State) (m : MethodId) (args : Array Value) (below : List Frame) (meth : Method) (c : Code), xC C M p e s m args below meth c →
    ∀ (H : Heap) (locs : List Loc) (ls : Array Slot), xL ls M.2.2.1 L → xRep C.2.1 h H → xS C.2.2.2.2.2.1 s.heap h H locs →
      W p C.1 e (xR C) s m args below meth c H locs k n (xEnd C below s) (F0 m pc ls st)
theorem W_mono {p : Program} {l : Launch} {e : Env} {R : Room} {s : State} {m : MethodId} {args : Array Value} {below : List Frame} {meth : Method} {c : Code} {H : Heap} {locs : List Loc} {cells slots : Nat} {Q Q' : State → Prop} {g : JFrame} (h : ∀ t, Q t → Q' t) (k : W p l e R s m args below meth c H locs cells slots Q g) : W p l e R s m args below meth c H locs cells slots Q' g := fun T hT X => by
  obtain ⟨t, a, b⟩ := k T hT X
  exact ⟨t, a, h t b⟩
theorem xA_up {h : xH} {a : Nat} {e0 e : xE} (ha : h.2 a = some e0) (q : Nat) : xA (xup h a e) q ↔ xA h q := by
  unfold xA xup
  by_cases hq : q = a
  · subst hq; simp [ha]
  · simp [hq]
theorem xRep_up {G : xG} {h : xH} {H H1 : Heap} {a : Nat} {e : xE} (hR : xRep G h H) (he : va_at G.1 xcl (a, xv G e) H1) (z : H1.size = H.size) (oq : ∀ q : Nat, q ≠ a → H1[q]? = H[q]?) : xRep G (xup h a e) H1 := by
  refine ⟨z.trans hR.1, fun b e' hb => ?_⟩
  by_cases hq : b = a
  · subst hq
    rw [xup_self] at hb
    cases hb
    exact he
  · rw [xup_ne _ _ hq] at hb
    exact (hR.2 b e' hb).kept (oq b hq)
theorem xS_up {h0 h : xH} {H0 H H1 : Heap} {locs : List Loc} {a i : Nat} {e0 e : xE} (hS : xS h0 H0 h H locs) (ha : h.2 a = some e0) (z : H1.size = H.size) (oq : ∀ q : Nat, q ≠ a → H1[q]? = H[q]?) : xS h0 H0 (xup h a e) H1 (locs ++ [⟨a, i⟩]) := by
  have hA : xA h0 a := hS.2.2.2 a (Or.inl (by rw [ha]; rfl))
  refine ⟨by rw [z]; exact hS.1, fun q h1 h2 => ?_, fun x hx => ?_, fun q hq => hS.2.2.2 q ((xA_up ha q).mp hq)⟩
  · rw [oq q (fun e => h2 (by rw [e]; exact hA))]
    exact hS.2.1 q h1 h2
  · rcases List.mem_append.mp hx with h1 | h1
    · exact hS.2.2.1 x h1
    · rw [List.mem_singleton.mp h1]; exact hA
theorem xRep_new {G : xG} {h : xH} {H H1 : Heap} {e : xE} (hR : xRep G h H) (he : va_at G.1 xcl (h.1, xv G e) H1) (z : H1.size = h.1 + 1) (oq : ∀ q : Nat, q < h.1 → H1[q]? = H[q]?) : xRep G (xnew h e) H1 := by
  refine ⟨z, fun b e' hb => ?_⟩
  by_cases hq : b = h.1
  · subst hq
    simp only [xnew, if_true] at hb
    cases hb
    exact he
  · simp only [xnew, hq, if_false] at hb
    have hl := (hR.2 b e' hb).lt
    rw [hR.1] at hl
    exact (hR.2 b e' hb).kept (oq b hl)
theorem xS_new {G : xG} {h0 h : xH} {H0 H H1 : Heap} {locs : List Loc} {e : xE} (hS : xS h0 H0 h H locs) (hR : xRep G h H) (z : H1.size = h.1 + 1) (oq : ∀ q : Nat, q < h.1 → H1[q]? = H[q]?) : xS h0 H0 (xnew h e) H1 locs := by
  have hA : xA h0 h.1 := hS.2.2.2 h.1 (Or.inr (Nat.le_refl _))
  have hsz := hR.1
  refine ⟨by rw [z, ← hsz]; exact Nat.le_succ_of_le hS.1, fun q h1 h2 => ?_, hS.2.2.1, fun q hq => ?_⟩
  · rw [oq q (by rw [← hsz]; exact Nat.lt_of_lt_of_le h1 hS.1)]
    exact hS.2.1 q h1 h2
  · unfold xA xnew at hq
    by_cases hq2 : q = h.1
    · rw [hq2]; exact hA
    · simp only [hq2, if_false] at hq
      rcases hq with hq | hq
      · exact hS.2.2.2 q (Or.inl hq)
      · exact hS.2.2.2 q (Or.inr (by omega))
/-- a field of the class with the number ci, named by the entry idx of own's pool -/
def xF (own : String) (idx ci kf : Nat) : Prop :=
  ∃ (Cn : String) (T : u_T) (N : Nat) (ref host : String), xcl[ci]? = some (Cn, T, N) ∧ kf < N ∧ (∀ w ∈ u_ws Cn T N, w ∈ xTAB) ∧
    (Cond.fieldLink own idx ref (T kf).2.1 (T kf).2.2.1 ∈ xTAB ∨ Cond.fieldLinkNest own idx ref (T kf).2.1 (T kf).2.2.1 host ∈ xTAB) ∧
    (ref = (T kf).1 ∨ Cond.sameField ref (T kf).1 (T kf).2.1 (T kf).2.2.1 ∈ xTAB)
/-- a field that may be written: of the type ty; final only where its own class's constructor writes it -/
def xFw (own name : String) (idx ci kf : Nat) (ty : FieldType) : Prop :=
  ∃ (Cn : String) (T : u_T) (N : Nat) (ref host : String), xcl[ci]? = some (Cn, T, N) ∧ kf < N ∧ (∀ w ∈ u_ws Cn T N, w ∈ xTAB) ∧
    (∀ k, k < N → ∃ t, parseFieldDescriptor (T k).2.2.1 = some t) ∧ (∀ a, a < N → ∀ b, b < N → a ≠ b → (T a).2.1 ≠ (T b).2.1) ∧ parseFieldDescriptor (T kf).2.2.1 = some ty ∧
    (((T kf).2.2.2 = false ∧ (Cond.fieldLink own idx ref (T kf).2.1 (T kf).2.2.1 ∈ xTAB ∨ Cond.fieldLinkNest own idx ref (T kf).2.1 (T kf).2.2.1 host ∈ xTAB)) ∨
      ((T kf).2.2.2 = true ∧ name = "<init>" ∧ (T kf).1 = own ∧ Cond.fieldLink own idx ref (T kf).2.1 (T kf).2.2.1 ∈ xTAB)) ∧
    (ref = (T kf).1 ∨ Cond.sameField ref (T kf).1 (T kf).2.1 (T kf).2.2.1 ∈ xTAB)
theorem xsame {s : State} {args : Array Value} {ref o n d : String} (hts : ∀ w ∈ xTAB, w.before args s = true) (h : ref = o ∨ Cond.sameField ref o n d ∈ xTAB) (x : ClassId × Class × Nat × Field) (hx : s.fieldFound? o n d = some x) : s.fieldFound? ref n d = some x := by
  rcases h with rfl | h
  · exact hx
  · exact u_same (hts _ h) x hx
section XH
variable {C : xCt} {M : xMt} {pc : Nat} {L : List (Option Value)} {st : List Value} {h : xH} {k n : Nat}
theorem ex_get {idx ci kf a : Nat} {fs : List Value} {v : Value} (hd : decode M.2.1 pc = .ok (.getfield idx, 3)) (hw : xF M.1.cls idx ci kf) (hh : h.2 a = some (.inr (ci, fs))) (hv : fs[kf]? = some v) (kk : Ex C M (pc + 3) L (v :: st) h k n) : Ex C M pc L (.ref a :: st) h k n := by
  intro p e s m args below meth c X H locs ls hL hR hS
  have kk := kk p e s m args below meth c X H locs ls hL hR hS
  obtain ⟨hx, hb, -, hown, -, -, -, -, -, hK, hts, -⟩ := X
  obtain ⟨Cn, T, N, ref, host, hc, hk, hin, hl, hsm⟩ := hw
  have hP : va_P C.2.1.1 xcl [(a, .inr (ci, fs))] H := fun j q hq => by
    cases j with
    | zero => cases hq; exact hR.2 a _ hh
    | succ j => cases hq
  rcases hl with hl | hl
  · exact va_get hx hb hts hin hown hK hP 0 rfl hc kf hk (hts _ hl) (xsame hts hsm) hv hd kk
  · exact va_getN hx hb hts hin hown hK hP 0 rfl hc kf hk (hts _ hl) (xsame hts hsm) hv hd kk
theorem ex_put {idx ci kf a : Nat} {fs fs' : List Value} {v : Value} {ty : FieldType} (hd : decode M.2.1 pc = .ok (.putfield idx, 3)) (hw : xFw M.1.cls M.1.name idx ci kf ty) (hh : h.2 a = some (.inr (ci, fs))) (hn : narrow ty v = v) (hft : fits ty v = true) (hl : kf < fs.length) (hs : fs.set kf v = fs') (kk : Ex C M (pc + 3) L st (xup h a (.inr (ci, fs'))) k n) : Ex C M pc L (v :: .ref a :: st) h k n := by
  subst hs
  intro p e s m args below meth c X H locs ls hL hR hS
  have kk := kk p e s m args below meth c X
  obtain ⟨hx, hb, -, hown, -, -, hmn, -, -, hK, hts, -⟩ := X
  obtain ⟨Cn, T, N, ref, host, hc, hk, hin, hty0, hnm, hdt, hcase, hsm⟩ := hw
  obtain ⟨r, h1, cell, q1, q2, q3, q4⟩ := hR.2 a _ hh
  have hr : r = (Cn, T, N) := Option.some.inj (h1.symm.trans hc)
  subst hr
  have hty1 : ∀ j, j < N → parseFieldDescriptor (T j).2.2.1 = some ((parseFieldDescriptor (T j).2.2.1).getD .int) := fun j hj => by
    obtain ⟨t, ht⟩ := hty0 j hj
    rw [ht]; rfl
  have hap := va_apart (own := M.1.cls) hts hin (fun j => (parseFieldDescriptor (T j).2.2.1).getD .int) hty1 hnm hK hc
  obtain ⟨hS1, hfc, kC, hkC, hkind⟩ := hK.1 ci _ hc
  obtain ⟨cf, kf', fi, f, hi, hsl⟩ := hS1 kf hk
  have hlay := hts _ (hin _ (u_in_lay hk))
  have hst := (u_facts hfc hkC (u_lays hts hin hk) hi).1
  have goal : ∀ H' : Heap, H'[a]? = some (cell.setSlot f.slot v) → H'.size = H.size → (∀ q, q ≠ a → H'[q]? = H[q]?) → W p C.1 e (xR C) s m args below meth c H' (locs ++ [⟨a, f.slot⟩]) k n (xEnd C below s) (F0 m (pc + 3) ls st) := by
    intro H' e1 e2 e3
    rw [hsl] at e1 ⊢
    refine kk H' _ ls hL (xRep_up hR ?_ e2 e3) (xS_up hS hh e2 e3)
    exact ⟨_, hc, t_OB.to (V := updV (vp_V fs) kf v) ⟨_, e1, q2, q3, t_set q4 hap hk v⟩ (fun j _ => vp_updV_set hl v j)⟩
  rcases hcase with ⟨hfin, hl | hl⟩ | ⟨hfin, hinit, hdecl, hl⟩
  · unfold u_lay at hlay
    rw [if_neg (by rw [hfin]; decide)] at hlay
    have h6 := u_store hfc hkC hkind hlay hi hdt hn hft
    exact W.putK hx hb (f := f) ⟨hown, hts _ hl, ⟨_, _, _, xsame hts hsm _ hi⟩, hst⟩ (by rw [q2]; exact h6) q1 q3 (by rw [hsl]; exact k2_hasslot (q4 kf hk)) rfl rfl hd goal
  · unfold u_lay at hlay
    rw [if_neg (by rw [hfin]; decide)] at hlay
    have h6 := u_store hfc hkC hkind hlay hi hdt hn hft
    exact va_WputK hx hb (f := f) hown (hts _ hl) (xsame hts hsm _ hi) hst (by rw [q2]; exact h6) q1 q3 (by rw [hsl]; exact k2_hasslot (q4 kf hk)) rfl rfl hd goal
  · unfold u_lay at hlay
    rw [if_pos hfin] at hlay
    have hcf : m.cls = cf := by
      obtain ⟨_, _, c', _, _, _, -, -, hf', -, -, -, hown2, -⟩ := Cond.laysFinal_spec hlay
      have e1 : c' = cf := by have := hi.symm.trans hf'; simp at this; exact this.1.symm
      rw [hdecl] at hown2
      rw [← e1]; exact Option.some.inj (hown.symm.trans hown2)
    have h6 := u_fits hfc hkC hkind (Or.inr hlay) hi hdt hn hft
    exact W.putFinK hx hb hown (hts _ hl) (xsame hts hsm _ hi) hst hcf (hmn.trans hinit) (by rw [q2]; exact h6) q1 q3 (by rw [hsl]; exact k2_hasslot (q4 kf hk)) rfl rfl hd goal
theorem xone {G : xG} {H : Heap} {a : Nat} {e : xE} (hR : xRep G h H) (hh : h.2 a = some e) : va_P G.1 xcl [(a, xv G e)] H := fun j q hq => by
  cases j with
  | zero => cases hq; exact hR.2 a _ hh
  | succ j => cases hq
theorem ex_iaload {a N j : Nat} {f : Nat → Int32} {i : Int32} (hd : decode M.2.1 pc = .ok (.iaload, 1)) (hh : h.2 a = some (.inl (0, N, .inl f))) (hi : i = nI j) (hj : j < N) (hN : N < 2 ^ 31) (kk : Ex C M (pc + 1) L (.int (f j) :: st) h k n) : Ex C M pc L (.int i :: .ref a :: st) h k n := by
  subst hi
  intro p e s m args below meth c X H locs ls hL hR hS
  have kk := kk p e s m args below meth c X H locs ls hL hR hS
  obtain ⟨hx, hb, -, -, -, -, -, -, -, hK, -⟩ := X
  refine va_iald hx hb hK (xone hR hh) 0 0 rfl rfl (vp_in_nI hj hN) hd ?_
  rw [nI_clamp (by omega)]
  exact kk
theorem ex_laload {a N j : Nat} {f : Nat → Int64} {i : Int32} (hd : decode M.2.1 pc = .ok (.laload, 1)) (hh : h.2 a = some (.inl (1, N, .inr (.inl f)))) (hi : i = nI j) (hj : j < N) (hN : N < 2 ^ 31) (kk : Ex C M (pc + 1) L (.long (f j) :: st) h k n) : Ex C M pc L (.int i :: .ref a :: st) h k n := by
  subst hi
  intro p e s m args below meth c X H locs ls hL hR hS
  have kk := kk p e s m args below meth c X H locs ls hL hR hS
  obtain ⟨hx, hb, -, -, -, -, -, -, -, hK, -⟩ := X
  refine va_lald hx hb hK (xone hR hh) 0 1 rfl rfl (vp_in_nI hj hN) hd ?_
  rw [nI_clamp (by omega)]
  exact kk
theorem ex_aaload {a N j t v : Nat} {Cn : String} {f : Nat → Option Nat} {i : Int32} (hd : decode M.2.1 pc = .ok (.aaload, 1)) (hh : h.2 a = some (.inl (t, N, .inr (.inr (.inr (.inr f)))))) (ht : ∀ G : xG, (xtys G)[t]? = some (G.2.1 t, .object Cn)) (hi : i = nI j) (hj : j < N) (hN : N < 2 ^ 31) (hv : f j = some v) (kk : Ex C M (pc + 1) L (.ref v :: st) h k n) : Ex C M pc L (.int i :: .ref a :: st) h k n := by
  subst hi
  intro p e s m args below meth c X H locs ls hL hR hS
  have kk := kk p e s m args below meth c X H locs ls hL hR hS
  obtain ⟨hx, hb, -, -, -, -, -, -, -, hK, -⟩ := X
  refine va_aldq hx hb hK (xone hR hh) 0 t rfl (ht _) (vp_in_nI hj hN) hd ?_
  rw [nI_clamp (by omega), hv]
  exact kk
theorem ex_alen {a N t : Nat} {y : (Nat → Int32) ⊕ (Nat → Int64) ⊕ (Nat → UInt32) ⊕ (Nat → UInt64) ⊕ (Nat → Option Nat)} {ty : FieldType} (hd : decode M.2.1 pc = .ok (.arraylength, 1)) (hh : h.2 a = some (.inl (t, N, y))) (ht : ∀ G : xG, (xtys G)[t]? = some (G.2.1 t, ty)) (kk : Ex C M (pc + 1) L (.int (nI N) :: st) h k n) : Ex C M pc L (.ref a :: st) h k n := by
  intro p e s m args below meth c X H locs ls hL hR hS
  have kk := kk p e s m args below meth c X H locs ls hL hR hS
  obtain ⟨hx, hb, -, -, -, -, -, -, -, hK, -⟩ := X
  exact va_alen hx hb hK (xone hR hh) 0 t rfl (ht _) rfl hd kk
theorem ex_sld {a N j : Nat} {f : Nat → Int32} {i : Int32} (hd : decode M.2.1 pc = .ok (.iaload, 1)) (hh : C.2.1.2.2 a = some (N, f)) (hi : i = nI j) (hj : j < N) (hN : N < 2 ^ 31) (kk : Ex C M (pc + 1) L (.int (f j) :: st) h k n) : Ex C M pc L (.int i :: .ref a :: st) h k n := by
  subst hi
  intro p e s m args below meth c X H locs ls hL hR hS
  have kk := kk p e s m args below meth c X H locs ls hL hR hS
  obtain ⟨hx, hb, -, -, -, -, -, -, -, hK, -, -, ⟨hZ, -⟩, -⟩ := X
  obtain ⟨hX, hnA⟩ := hZ _ _ hh
  have hlt : a < s.heap.size := by
    obtain ⟨scr, h1, -⟩ := hX
    exact (Array.getElem?_eq_some_iff.mp h1).1
  refine va_sld hx hb hX hlt hnA hS.va (vp_in_nI hj hN) hd ?_
  rw [nI_clamp (by omega)]
  exact kk
theorem ex_slen {a N : Nat} {f : Nat → Int32} (hd : decode M.2.1 pc = .ok (.arraylength, 1)) (hh : C.2.1.2.2 a = some (N, f)) (kk : Ex C M (pc + 1) L (.int (nI N) :: st) h k n) : Ex C M pc L (.ref a :: st) h k n := by
  intro p e s m args below meth c X H locs ls hL hR hS
  have kk := kk p e s m args below meth c X H locs ls hL hR hS
  obtain ⟨hx, hb, -, -, -, -, -, -, -, hK, -, -, ⟨hZ, -⟩, -⟩ := X
  obtain ⟨hX, hnA⟩ := hZ _ _ hh
  have hlt : a < s.heap.size := by
    obtain ⟨scr, h1, -⟩ := hX
    exact (Array.getElem?_eq_some_iff.mp h1).1
  exact va_slen hx hb hX hlt hnA hS.va hd kk
theorem ex_iastore {a N j : Nat} {f : Nat → Int32} {i x : Int32} (hd : decode M.2.1 pc = .ok (.iastore, 1)) (hh : h.2 a = some (.inl (0, N, .inl f))) (hi : i = nI j) (hj : j < N) (hN : N < 2 ^ 31) (kk : Ex C M (pc + 1) L st (xup h a (.inl (0, N, .inl (upd f j x)))) k n) : Ex C M pc L (.int x :: .int i :: .ref a :: st) h k n := by
  subst hi
  intro p e s m args below meth c X H locs ls hL hR hS
  have kk := kk p e s m args below meth c X
  obtain ⟨hx, hb, -, -, -, -, -, -, -, hK, -⟩ := X
  have h0 : H[a]? = some (vp_cell (C.2.1.2.1 0) (N, .inl f)) := hR.2 a _ hh
  refine W.iast hx hb h0 ((hK.2 0 _ rfl).1 N (fun j => .int (f j))) (fun q => by cases q) (by show ¬ (_ ∨ (arrV _ _ _).slots.size ≤ _); rw [arrV_size]; exact vp_in_nI hj hN) rfl rfl hd fun H1 e z oq => ?_
  rw [nI_clamp (by omega)] at e ⊢
  refine kk H1 _ ls hL (xRep_up hR ?_ z oq) (xS_up hS hh z oq)
  show H1[a]? = some (vp_cell _ _)
  rw [e, vp_cell_i, vp_cell_i, arrV_store]
  congr 2
  funext q
  by_cases hq : q = j
  · subst hq
    simp [updV, upd]
  · simp [updV, upd, hq]
theorem ex_lastore {a N j : Nat} {f : Nat → Int64} {i : Int32} {x : Int64} (hd : decode M.2.1 pc = .ok (.lastore, 1)) (hh : h.2 a = some (.inl (1, N, .inr (.inl f)))) (hi : i = nI j) (hj : j < N) (hN : N < 2 ^ 31) (kk : Ex C M (pc + 1) L st (xup h a (.inl (1, N, .inr (.inl (vp_updL f j x))))) k n) : Ex C M pc L (.long x :: .int i :: .ref a :: st) h k n := by
  subst hi
  intro p e s m args below meth c X H locs ls hL hR hS
  have kk := kk p e s m args below meth c X
  obtain ⟨hx, hb, -, -, -, -, -, -, -, hK, -⟩ := X
  have h0 : H[a]? = some (vp_cell (C.2.1.2.1 1) (N, .inr (.inl f))) := hR.2 a _ hh
  refine W.last hx hb h0 ((hK.2 1 _ rfl).1 N (fun j => .long (f j))) (fun q => by cases q) (by show ¬ (_ ∨ (arrV _ _ _).slots.size ≤ _); rw [arrV_size]; exact vp_in_nI hj hN) rfl rfl hd fun H1 e z oq => ?_
  rw [nI_clamp (by omega)] at e ⊢
  refine kk H1 _ ls hL (xRep_up hR ?_ z oq) (xS_up hS hh z oq)
  show H1[a]? = some (vp_cell _ _)
  rw [e, vp_cell_l, vp_cell_l, arrV_store]
  congr 2
  funext q
  by_cases hq : q = j
  · subst hq
    simp [updV, vp_updL]
  · simp [updV, vp_updL, hq]
theorem ex_aastore {a N j t v ci : Nat} {r : vw_C} {vs : List Value} {f : Nat → Option Nat} {i : Int32} (hd : decode M.2.1 pc = .ok (.aastore, 1)) (hh : h.2 a = some (.inl (t, N, .inr (.inr (.inr (.inr f)))))) (ht : ∀ G : xG, (xtys G)[t]? = some (G.2.1 t, .object r.1)) (hv : h.2 v = some (.inr (ci, vs))) (hc : xcl[ci]? = some r) (hi : i = nI j) (hj : j < N) (hN : N < 2 ^ 31) (kk : Ex C M (pc + 1) L st (xup h a (.inl (t, N, .inr (.inr (.inr (.inr (va_up f j (some v)))))))) k n) : Ex C M pc L (.ref v :: .int i :: .ref a :: st) h k n := by
  subst hi
  intro p e s m args below meth c X H locs ls hL hR hS
  have kk := kk p e s m args below meth c X
  obtain ⟨hx, hb, -, -, -, -, -, -, -, hK, -⟩ := X
  have h0 : H[a]? = some (vp_cell (C.2.1.2.1 t) (N, .inr (.inr (.inr (.inr f))))) := hR.2 a _ hh
  obtain ⟨r', hr', cellV, g1, g2, g3, -⟩ := hR.2 v _ hv
  have hcls := (hK.1 ci r hc).2
  obtain ⟨kA, comp, k1, k2, k3, -⟩ := (hK.2 t _ (ht _)).2
  have hcomp : comp = C.2.1.1.1 ci := Option.some.inj (k3.symm.trans hcls.1)
  subst hcomp
  obtain ⟨kC, hkC, -⟩ := hcls.2
  refine W.aast hx hb h0 (fun q h => by cases h) (fun h => by cases h) k1 k2 rfl hkC ⟨nI_pos (by omega), by show _ < (arrV _ _ _).slots.size; rw [arrV_size, nI_clamp (by omega)]; exact hj⟩ g1 (fun q h => by rw [g3] at h; cases h) (by rw [g2]; exact hkC) (by rw [g2]; exact va_assign hcls) rfl rfl hd fun H1 e z oq => ?_
  rw [nI_clamp (by omega)] at e ⊢
  refine kk H1 _ ls hL (xRep_up hR ?_ z oq) (xS_up hS hh z oq)
  show H1[a]? = some (vp_cell _ _)
  rw [e, vp_cell_q, vp_cell_q, arrV_store]
  congr 2
  funext q
  by_cases hq : q = j
  · subst hq
    simp [updV, va_up, va_rf]
  · simp [updV, va_up, hq]
/-- a class that can be made here: its fields begin as fs -/
def xNw (own : String) (idx ci N : Nat) (fs : List Value) : Prop :=
  ∃ (Cn : String) (T : u_T), xcl[ci]? = some (Cn, T, N) ∧ (∀ w ∈ u_ws Cn T N, w ∈ xTAB) ∧ Cond.classLink own idx Cn ∈ xTAB ∧ Cond.instantiable Cn N ∈ xTAB ∧ Cond.initialized Cn ∈ xTAB ∧
    ∀ j, j < N → ∃ t, parseFieldDescriptor (T j).2.2.1 = some t ∧ defaultValue t = vp_V fs j
theorem ex_new {idx ci N : Nat} {fs : List Value} (hd : decode M.2.1 pc = .ok (.new idx, 3)) (hw : xNw M.1.cls idx ci N fs) (hk : k + 1 ≤ C.2.2.2.1) (hn : n + N ≤ C.2.2.2.2.1) (kk : Ex C M (pc + 3) L (.ref h.1 :: st) (xnew h (.inr (ci, fs))) (k + 1) (n + N)) : Ex C M pc L st h k n := by
  intro p e s m args below meth c X H locs ls hL hR hS
  have kk := kk p e s m args below meth c X
  obtain ⟨hx, hb, -, hown, -, -, -, -, -, hK, hts, -⟩ := X
  obtain ⟨Cn, T, hc, hin, hcl, hins, hini, hty⟩ := hw
  have hKn := hK.1 ci _ hc
  refine W.newcK hx hb hown (hts _ hcl) (hts _ hins) (hts _ hini) rfl hd hk hn hKn.2.1 hR.1 fun H1 kC hkC e1 z1 o1 => ?_
  have hty1 : ∀ j, j < N → parseFieldDescriptor (T j).2.2.1 = some ((parseFieldDescriptor (T j).2.2.1).getD .int) := fun j hj => by
    obtain ⟨t, ht, -⟩ := hty j hj
    rw [ht]; rfl
  refine kk H1 locs ls hL (xRep_new hR ?_ z1 o1) (xS_new hS hR z1 o1)
  refine ⟨_, hc, (u_born (fun j => (parseFieldDescriptor (T j).2.2.1).getD .int) hts hin hKn hkC e1 hty1).to (fun j hj => ?_)⟩
  obtain ⟨t, ht, hdv⟩ := hty j hj
  rw [← hdv, ht]; rfl
theorem ex_newi {N : Nat} {i : Int32} (hd : decode M.2.1 pc = .ok (.newarray .int, 2)) (hw : Cond.arrayClass .int ∈ xTAB) (hi : i = nI N) (hN : N < 65536) (hk : k + 1 ≤ C.2.2.2.1) (hn : n + N ≤ C.2.2.2.2.1) (kk : Ex C M (pc + 2) L (.ref h.1 :: st) (xnew h (.inl (0, N, .inl (fun _ => 0)))) (k + 1) (n + N)) : Ex C M pc L (.int i :: st) h k n := by
  subst hi
  intro p e s m args below meth c X H locs ls hL hR hS
  have kk := kk p e s m args below meth c X
  obtain ⟨hx, hb, -, hown, -, -, -, -, -, hK, hts, -⟩ := X
  refine va_newaK (atype := .int) hx hb (hts _ hw) rfl hd rfl (nI_pos (by omega)) (nI_clamp (by omega)) (by show N * 4 ≤ _; omega) hk hn hR.1 fun H1 cA e1 z1 o1 hAr hNm => ?_
  have hcA : cA = C.2.1.2.1 0 := Option.some.inj (hNm.symm.trans (va_nm_int (hK.2 0 _ rfl).2))
  subst hcA
  exact kk H1 locs ls hL (xRep_new hR (by show H1[h.1]? = some (vp_cell _ _); rw [e1, vp_cell_i]; rfl) z1 o1) (xS_new hS hR z1 o1)
theorem ex_newl {N : Nat} {i : Int32} (hd : decode M.2.1 pc = .ok (.newarray .long, 2)) (hw : Cond.arrayClass .long ∈ xTAB) (hi : i = nI N) (hN : N < 65536) (hk : k + 1 ≤ C.2.2.2.1) (hn : n + N ≤ C.2.2.2.2.1) (kk : Ex C M (pc + 2) L (.ref h.1 :: st) (xnew h (.inl (1, N, .inr (.inl (fun _ => 0))))) (k + 1) (n + N)) : Ex C M pc L (.int i :: st) h k n := by
  subst hi
  intro p e s m args below meth c X H locs ls hL hR hS
  have kk := kk p e s m args below meth c X
  obtain ⟨hx, hb, -, hown, -, -, -, -, -, hK, hts, -⟩ := X
  refine va_newaK (atype := .long) hx hb (hts _ hw) rfl hd rfl (nI_pos (by omega)) (nI_clamp (by omega)) (by show N * 8 ≤ _; omega) hk hn hR.1 fun H1 cA e1 z1 o1 hAr hNm => ?_
  have hcA : cA = C.2.1.2.1 1 := Option.some.inj (hNm.symm.trans (va_nm_long (hK.2 1 _ rfl).2))
  subst hcA
  exact kk H1 locs ls hL (xRep_new hR (by show H1[h.1]? = some (vp_cell _ _); rw [e1, vp_cell_l]; rfl) z1 o1) (xS_new hS hR z1 o1)
theorem ex_anew {N t idx : Nat} {i : Int32} {Cn : String} (hd : decode M.2.1 pc = .ok (.anewarray idx, 3)) (hw : Cond.classLink M.1.cls idx Cn ∈ xTAB) (hov : Cond.arrayOver (.object Cn) ∈ xTAB) (ht : ∀ G : xG, (xtys G)[t]? = some (G.2.1 t, .object Cn)) (hi : i = nI N) (hN : N < 65536) (hk : k + 1 ≤ C.2.2.2.1) (hn : n + N ≤ C.2.2.2.2.1) (kk : Ex C M (pc + 3) L (.ref h.1 :: st) (xnew h (.inl (t, N, .inr (.inr (.inr (.inr (fun _ => none))))))) (k + 1) (n + N)) : Ex C M pc L (.int i :: st) h k n := by
  subst hi
  intro p e s m args below meth c X H locs ls hL hR hS
  have kk := kk p e s m args below meth c X
  obtain ⟨hx, hb, -, hown, -, -, -, -, -, hK, hts, -⟩ := X
  have hcl9 : (nI N).toNatClampNeg = N := nI_clamp (by omega)
  refine W.anew hx hb hown (hts _ hw) (hts _ hov) rfl hd rfl (nI_pos (by omega)) (by rw [hcl9]; omega) hk (by rw [hcl9]; exact hn) fun cA kA comp f1 f2 f3 f4 => ?_
  obtain ⟨kA', comp', r1, r2, r3, r4⟩ := (hK.2 t _ (ht _)).2
  have hcA : cA = C.2.1.2.1 t := Option.some.inj (f1.symm.trans r4)
  subst hcA
  rw [hcl9]
  generalize hH1 : H.push ({ cls := C.2.1.2.1 t, slots := Array.replicate N .null, vm := .none } : Cell) = H1
  have z1 : H1.size = h.1 + 1 := by rw [← hH1, Array.size_push, hR.1]
  have e1 : H1[h.1]? = some (arrV (C.2.1.2.1 t) N (fun _ => .null)) := by rw [← hH1, ← hR.1, Array.getElem?_push_size, ← arrV_new]
  have o1 : ∀ q : Nat, q < h.1 → H1[q]? = H[q]? := fun q hq => by rw [← hH1, Array.getElem?_push, if_neg (by rw [hR.1]; exact Nat.ne_of_lt hq)]
  have w := kk H1 locs ls hL (xRep_new hR (by show H1[h.1]? = some (vp_cell _ _); rw [e1, vp_cell_q]; rfl) z1 o1) (xS_new hS hR z1 o1)
  rw [hR.1]
  exact w
/-! ends -/
theorem xfin {p : Program} {e : Env} {s : State} {m : MethodId} {args : Array Value} {below : List Frame} {meth : Method} {c : Code} {H : Heap} {locs : List Loc} {g : JFrame} {v : Option Value} (hR : xRep C.2.1 h H) (hS : xS C.2.2.2.2.2.1 s.heap h H locs) (hk : k ≤ C.2.2.2.1) (hn : n ≤ C.2.2.2.2.1) (hq : C.2.2.2.2.2.2 (.inl v) h)
    (w : W p C.1 e (xR C) s m args below meth c H locs k n (MQ below (fun _ _ o t => o = .returned v ∧ t.heap = H) args s k n (xA C.2.2.2.2.2.1)) g) : W p C.1 e (xR C) s m args below meth c H locs k n (xEnd C below s) g := by
  refine W_mono (fun t ht => ?_) w
  obtain ⟨o, h1, h2, ⟨h3, h4⟩, L9, ⟨-, h5, h6⟩, h7⟩ := ht
  refine ⟨o, h1, h2, .inl v, h, hq, h3, by rw [h4]; exact hR, h5, L9, ⟨by rw [h4]; exact hS.1, by rw [h4]; exact hS.2.1, h7, hS.2.2.2⟩, h6.mono hk hn⟩
theorem ex_iret {v : Int32} (hd : decode M.2.1 pc = .ok (.ireturn, 1)) (hr : M.2.2.2.1 = some .int) (hk : k ≤ C.2.2.2.1) (hn : n ≤ C.2.2.2.2.1) (hq : C.2.2.2.2.2.2 (.inl (some (.int v))) h) : Ex C M pc L [.int v] h k n := by
  intro p e s m args below meth c X H locs ls hL hR hS
  obtain ⟨hx, hb, -, -, hrt, hlk, -⟩ := X
  exact xfin hR hS hk hn hq (W.iret hx hb (hrt.trans hr) (fun t ht _ => ⟨rfl, ht⟩) hS.2.2.1 hd hlk)
theorem ex_zret {v : Int32} (hd : decode M.2.1 pc = .ok (.ireturn, 1)) (hr : M.2.2.2.1 = some .boolean) (hv : v = 0 ∨ v = 1) (hk : k ≤ C.2.2.2.1) (hn : n ≤ C.2.2.2.2.1) (hq : C.2.2.2.2.2.2 (.inl (some (.int v))) h) : Ex C M pc L [.int v] h k n := by
  intro p e s m args below meth c X H locs ls hL hR hS
  obtain ⟨hx, hb, -, -, hrt, hlk, -⟩ := X
  exact xfin hR hS hk hn hq (W.zret hx hb (hrt.trans hr) (by rcases hv with rfl | rfl <;> decide) (fun t ht _ => ⟨rfl, ht⟩) hS.2.2.1 hd hlk)
theorem ex_lret {v : Int64} (hd : decode M.2.1 pc = .ok (.lreturn, 1)) (hr : M.2.2.2.1 = some .long) (hk : k ≤ C.2.2.2.1) (hn : n ≤ C.2.2.2.2.1) (hq : C.2.2.2.2.2.2 (.inl (some (.long v))) h) : Ex C M pc L [.long v] h k n := by
  intro p e s m args below meth c X H locs ls hL hR hS
  obtain ⟨hx, hb, -, -, hrt, hlk, -⟩ := X
  exact xfin hR hS hk hn hq (W.lret hx hb (hrt.trans hr) (fun t ht _ => ⟨rfl, ht⟩) hS.2.2.1 hd hlk)
theorem ex_vret (hd : decode M.2.1 pc = .ok (.return_, 1)) (hr : M.2.2.2.1 = none) (hk : k ≤ C.2.2.2.1) (hn : n ≤ C.2.2.2.2.1) (hq : C.2.2.2.2.2.2 (.inl none) h) : Ex C M pc L [] h k n := by
  intro p e s m args below meth c X H locs ls hL hR hS
  obtain ⟨hx, hb, -, -, hrt, hlk, -⟩ := X
  exact xfin hR hS hk hn hq (W.vret hx hb (hrt.trans hr) (fun t ht _ => ⟨rfl, ht⟩) hS.2.2.1 hd hlk)
theorem ex_aret {v : Nat} {ty : FieldType} (hd : decode M.2.1 pc = .ok (.areturn, 1)) (hr : M.2.2.2.1 = some ty) (hty : (∃ nm, ty = .object nm) ∨ ∃ t, ty = .array t) (hk : k ≤ C.2.2.2.1) (hn : n ≤ C.2.2.2.2.1) (hq : C.2.2.2.2.2.2 (.inl (some (.ref v))) h) : Ex C M pc L [.ref v] h k n := by
  intro p e s m args below meth c X H locs ls hL hR hS
  obtain ⟨hx, hb, -, -, hrt, hlk, -⟩ := X
  exact xfin hR hS hk hn hq (W.aret hx hb (hrt.trans hr) hty (Or.inr ⟨v, rfl⟩) (fun t ht _ => ⟨rfl, ht⟩) hS.2.2.1 hd hlk)
theorem ex_objInit {idx a : Nat} (hd : decode M.2.1 pc = .ok (.invokespecial idx, 3)) (hw : Cond.methodLink M.1.cls idx Lib.objectInit ∈ xTAB) (h1 : Cond.instanceMethod Lib.objectInit ∈ xTAB) (h2 : Cond.code Lib.objectInit ⟨#[0xb1]⟩ 1 none ∈ xTAB) (hst : (st.map fun v => v.category).sum ≤ 16) (kk : Ex C M (pc + 3) L st h k n) : Ex C M pc L (.ref a :: st) h k n := by
  intro p e s m args below meth c X H locs ls hL hR hS
  have kk := kk p e s m args below meth c X H locs ls hL hR hS
  obtain ⟨hx, hb, hml, hown, -, -, -, -, -, hK, hts, -⟩ := X
  exact W.objInit hx hb hown (hts _ hw) (hts _ h1) (hts _ h2) rfl (by rw [hml]; exact hL.1) rfl hd (by show 1 ≤ C.2.2.1 + 8; omega) (by show 2 * 0 + _ + 12 ≤ 64 * C.2.2.1 + 200; omega) kk
end XH
