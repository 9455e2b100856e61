/-! What the method's surroundings are: the tables' words, arrays' classes, statics and strings. -/
theorem xwk_at {args a' : Array Value} {s U : State} {w : Cond} (hW : s.WarmedH U.vm) (hk : xwk w = true) (h : w.before args s = true) : w.before a' U = true := by
  have e : U.setVm U.vm = U := State.setVm_self U
  unfold xwk at hk
  simp only [Bool.or_eq_true, Bool.and_eq_true] at hk
  rcases hk with (⟨ho, h1 | h1⟩ | hg) | ha
  · have h2 := Cond.onTables_warmFace (args' := a') (T := U) hW ho h1 h
    rwa [e] at h2
  · have h2 := Cond.onTables_warmH (args' := a') (T := U) hW ho h1 h
    rwa [e] at h2
  · exact word_at hW (good_of_word hg) h
  · split at ha
    · exact va_AO.use (va_AO.moved hW.alike (va_AO.of h))
    · cases ha
theorem xTAB_k : ∀ w ∈ xTAB, xwk w = true := fun w hw => (List.mem_filter.mp hw).2
/-- arrays by their numbers: 0 int, 1 long, 2 Line, 3 boolean -/
def xtys (G : xG) : List (ClassId × FieldType) := [(G.2.1 0, .int), (G.2.1 1, .long), (G.2.1 2, .object "PairedWords$Line"), (G.2.1 3, .boolean)]
/-- a static field that nobody writes holds v -/
def xSt (C n d : String) (v : Value) (A : Nat → Prop) (U : State) (H : Heap) : Prop := ∃ (c : ClassId) (k : Class) (i : Nat) (f : Field) (a : Nat) (cell : Cell), U.vm.findClass C = some c ∧ U.fieldFound? C n d = some (c, k, i, f) ∧ f.isStatic = true ∧ k.init = .initialized ∧ k.statics = some a ∧ H[a]? = some cell ∧ cell.vm.isStatics = true ∧ cell.cls = c ∧ f.slot < cell.slots.size ∧ k.staticTypes[f.slot]? = some f.type ∧ cell.slots[f.slot]? = some v ∧ ¬ A a
theorem xSt.moved {C n d : String} {v : Value} {A : Nat → Prop} {u U : State} {H : Heap} (hvm : u.vm.Alike U.vm) (h : xSt C n d v A u H) : xSt C n d v A U H := by
  obtain ⟨c, k, i, f, a, cell, h1, h2, h3, h4, h5, h6, h7, h8, h9, h10, h11, h12⟩ := h
  obtain ⟨k', hi', he⟩ := State.fieldFound?_setVm hvm h2
  exact ⟨c, k', i, f, a, cell, by rw [hvm.findClass]; exact h1, hi', h3, by rw [he]; exact h4, by rw [he]; exact h5, h6, h7, h8, h9, by rw [he]; exact h10, h11, h12⟩
theorem xSt.kept {C n d : String} {v : Value} {A : Nat → Prop} {U : State} {H H1 : Heap} (h : xSt C n d v A U H) (hq : ∀ a : Nat, a < H.size → ¬ A a → H1[a]? = H[a]?) : xSt C n d v A U H1 := by
  obtain ⟨c, k, i, f, a, cell, h1, h2, h3, h4, h5, h6, h7⟩ := h
  exact ⟨c, k, i, f, a, cell, h1, h2, h3, h4, h5, by rw [hq a (Array.getElem?_eq_some_iff.mp h6).1 h7.2.2.2.2.2]; exact h6, h7⟩
theorem xSt.narrow {C n d : String} {v : Value} {A B : Nat → Prop} {U : State} {H : Heap} (h : xSt C n d v A U H) (hAB : ∀ q, B q → A q) : xSt C n d v B U H := by
  obtain ⟨c, k, i, f, a, cell, h1, h2, h3, h4, h5, h6, h7, h8, h9, h10, h11, h12⟩ := h
  exact ⟨c, k, i, f, a, cell, h1, h2, h3, h4, h5, h6, h7, h8, h9, h10, h11, fun z => h12 (hAB _ z)⟩
theorem xSt.lays {C n d : String} {v : Value} {A : Nat → Prop} {s : State} {args : Array Value} (h : xSt C n d v A s s.heap) : (Cond.laysStatic C n d).before args s = true := by
  obtain ⟨c, k, i, f, a, cell, h1, h2, h3, h4, h5, h6, h7, h8, h9, h10, -⟩ := h
  show (Cond.laysStatic C n d).holds args s none s [] = true
  exact Cond.laysStatic_of h1 h2 h3 h5 h6 h7 h8 h9 h10
theorem xSt.isRef {C n d : String} {v : Value} {A : Nat → Prop} {s : State} {args : Array Value} (h : xSt C n d v A s s.heap) (hv : v.isRef = true) : (Cond.isRef (.static C n d)).before args s = true := by
  obtain ⟨c, k, i, f, a, cell, h1, h2, h3, h4, h5, h6, h7, h8, h9, h10, h11, -⟩ := h
  have he : (Term.static C n d).eval args s none [] s = some v := by
    simp [Term.eval, State.fieldNamed?, h2, h3, h5, h6, h7, h11]
  simp only [Cond.before, Cond.holds, Cond.value, he]
  cases v <;> simp_all [Value.isRef]
theorem xSt.z {C n d : String} {v : Value} {A : Nat → Prop} {U : State} {H : Heap} (h : xSt C n d v A U H) : va_Z C n d v A U H := by
  obtain ⟨c, k, i, f, a, cell, h1, h2, h3, h4, h5, h6, h7, h8, h9, h10, h11, h12⟩ := h
  exact ⟨c, k, i, f, a, cell, h2, h3, h4, h5, h6, h7, h11, h12⟩
theorem xSt_of {args : Array Value} {s : State} {C n d : String} {v : Value} {A : Nat → Prop} (hl : (Cond.laysStatic C n d).before args s = true) (hini : (Cond.initialized C).before args s = true) (hv : (Term.static C n d).eval args s none [] s = some v) (hA : ∀ a : Nat, a < s.heap.size → ¬ A a) : xSt C n d v A s s.heap := by
  obtain ⟨c, k, i, f, a, cell, hc, hi, hst, ha, hcell, hs, hcls, hlt, hty⟩ := Cond.laysStatic_spec hl
  obtain ⟨hst', a', cell', ha', hcell', -, hslot⟩ := Term.static_spec hi hv
  cases ha.symm.trans ha'
  cases hcell.symm.trans hcell'
  exact ⟨c, k, i, f, a, cell, hc, hi, hst, Cond.initialized_spec hc (State.fieldFound?_spec hi).1 hini, ha, hcell, hs, hcls, hlt, hty, hslot, hA a (Array.getElem?_eq_some_iff.mp hcell).1⟩
def xZs (G : xG) (A : Nat → Prop) (U : State) (H : Heap) : Prop :=
  (∃ v : Value, v.isRef = true ∧ xSt Bundle.tN "UNASSIGNED_STACK" Bundle.steD v A U H) ∧ (∃ v : Value, v.isRef = true ∧ xSt Bundle.tN "SUPPRESSED_SENTINEL" Bundle.listD v A U H) ∧
    ∃ a : Nat, xSt "PairedWords$Writing" "NO_ENTRIES" "[I" (.ref a) A U H
theorem xZs_moved {G : xG} {A : Nat → Prop} {u U : State} {H : Heap} (hvm : u.vm.Alike U.vm) (h : xZs G A u H) : xZs G A U H := by
  obtain ⟨⟨v, h1, h2⟩, ⟨w, h3, h4⟩, a, h6⟩ := h
  exact ⟨⟨v, h1, h2.moved hvm⟩, ⟨w, h3, h4.moved hvm⟩, a, h6.moved hvm⟩
theorem xZs_kept {G : xG} {A : Nat → Prop} {U : State} {H H1 : Heap} (h : xZs G A U H) (hq : ∀ a : Nat, a < H.size → ¬ A a → H1[a]? = H[a]?) : xZs G A U H1 := by
  obtain ⟨⟨v, h1, h2⟩, ⟨w, h3, h4⟩, a, h6⟩ := h
  exact ⟨⟨v, h1, h2.kept hq⟩, ⟨w, h3, h4.kept hq⟩, a, h6.kept hq⟩
theorem xZs_narrow {G : xG} {A B : Nat → Prop} {U : State} {H : Heap} (h : xZs G A U H) (hAB : ∀ q, B q → A q) : xZs G B U H := by
  obtain ⟨⟨v, h1, h2⟩, ⟨w, h3, h4⟩, a, h6⟩ := h
  exact ⟨⟨v, h1, h2.narrow hAB⟩, ⟨w, h3, h4.narrow hAB⟩, a, h6.narrow hAB⟩
/-- the String constants of the exceptions -/
def xSTR : List (String × Nat × String) := [("PairedWords", 83, "no such sign"), ("PairedWords", 92, "both empty, or there already"), ("PairedWords", 99, "as many pairs as may be"), ("PairedWords", 117, "no such kind or pair"), ("PairedWords", 120, "as many rules as may be"), ("PairedWords", 123, "no such rule"), ("PairedWords", 129, "as many contexts as may be"), ("PairedWords", 135, "no such set of pairs"), ("PairedWords", 137, "no context"), ("PairedWords", 154, "as many elements as may be"), ("PairedWords", 163, "no such part"), ("PairedWords", 166, "as many entries as may be"), ("PairedWords", 172, "no such entry or sign"), ("PairedWords", 182, "as many signs as may be"), ("PairedWords", 186, "the line is full"), ("PairedWords", 208, "too many results"), ("PairedWords", 221, "no such result"), ("PairedWords", 229, "no such sign or entry"), ("PairedWords", 238, "as many samples as may be")]
/-- what of the start is about the tables alone but is no word of xTAB -/
def xT (U : State) : Prop := (∀ q ∈ xSTR, ∃ a : Nat, vk_R q.1 q.2.1 q.2.2 a U) ∧ va_Nc "java/lang/IllegalStateException" "java/lang/IllegalArgumentException" U
theorem xT_moved {s U : State} (hW : s.WarmedH U.vm) (h : xT s) : xT U := ⟨fun q hq => by
  obtain ⟨a, ha⟩ := h.1 q hq
  exact ⟨a, vk_R.warm hW ha⟩, va_Nc.moved hW.alike h.2⟩
