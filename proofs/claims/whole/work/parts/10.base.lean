/-! The abstract configuration: a heap as a function from addresses to cells, locals as a list, and the judgement Ex (the machine, standing at this configuration, comes to an end that Q allows). -/
abbrev xG : Type := va_G × (Nat → ClassId) × (Nat → Option (Nat × (Nat → Int32)))
abbrev xE : Type := (Nat × vp_A) ⊕ (Nat × List Value)
abbrev xH : Type := Nat × (Nat → Option xE)
abbrev xO : Type := Option Value ⊕ String
abbrev xMt : Type := MethodName × ByteArray × Nat × Option FieldType × List (Nat × Nat × Nat × Nat)
abbrev xCt : Type := Launch × xG × Nat × Nat × Nat × xH × (xO → xH → Prop)
def xv (G : xG) (e : xE) : va_E := match e with
  | .inl a => .inl (G.2.1 a.1, a.2)
  | .inr o => .inr o
/-- the addresses that a method that begins with h may write: its cells, and what is made from here on -/
def xA (h : xH) (q : Nat) : Prop := (h.2 q).isSome = true ∨ h.1 ≤ q
def xRep (G : xG) (h : xH) (H : Heap) : Prop := H.size = h.1 ∧ ∀ (a : Nat) (e : xE), h.2 a = some e → va_at G.1 xcl (a, xv G e) H
def xup (h : xH) (a : Nat) (e : xE) : xH := (h.1, fun q => if q = a then some e else h.2 q)
def xnew (h : xH) (e : xE) : xH := (h.1 + 1, fun q => if q = h.1 then some e else h.2 q)
def xbump (h : xH) : xH := (h.1 + 1, h.2)
theorem xup_1 (h : xH) (a : Nat) (e : xE) : (xup h a e).1 = h.1 := rfl
theorem xup_self (h : xH) (a : Nat) (e : xE) : (xup h a e).2 a = some e := by simp [xup]
theorem xup_ne (h : xH) {a b : Nat} (e : xE) (hb : b ≠ a) : (xup h a e).2 b = h.2 b := by simp [xup, hb]
theorem xup_up (h : xH) (a : Nat) (e e' : xE) : xup (xup h a e) a e' = xup h a e' := by
  simp only [xup]
  congr 1
  funext q
  by_cases hq : q = a <;> simp [hq]
theorem xup_comm (h : xH) {a b : Nat} (e e' : xE) (hab : a ≠ b) : xup (xup h a e) b e' = xup (xup h b e') a e := by
  simp only [xup]
  congr 1
  funext q
  by_cases hq : q = a
  · subst hq; simp [hab]
  · by_cases hq2 : q = b
    · subst hq2; simp [hq]
    · simp [hq, hq2]
theorem xup_same {h : xH} {a : Nat} {e : xE} (hh : h.2 a = some e) : xup h a e = h := by
  obtain ⟨z, f⟩ := h
  simp only [xup]
  congr 1
  funext q
  by_cases hq : q = a
  · subst hq; simp only [if_true]; exact hh.symm
  · simp [hq]
/-- since the method began (heap H0, cells h0): what isn't its own is as it was; what was written is its own; its cells now are its own -/
def xS (h0 : xH) (H0 : Heap) (h : xH) (H : Heap) (locs : List Loc) : Prop :=
  H0.size ≤ H.size ∧ (∀ q : Nat, q < H0.size → ¬ xA h0 q → H[q]? = H0[q]?) ∧ (∀ x ∈ locs, xA h0 x.base) ∧ ∀ q : Nat, xA h q → xA h0 q
theorem xS.va {h0 h : xH} {H0 H : Heap} {locs : List Loc} (hS : xS h0 H0 h H locs) : va_S (xA h0) H0 H locs := ⟨hS.1, hS.2.1, hS.2.2.1⟩
/-- locals -/
def xL (ls : Array Slot) (nL : Nat) (L : List (Option Value)) : Prop := ls.size = nL ∧ lv_wf ls ∧ ∀ (i : Nat) (v : Value), L[i]? = some (some v) → ls[i]? = some (.val v)
def xcut (a : Option Value) : Option Value := match a with
  | some (.long _) => none
  | some (.double _) => none
  | x => x
def xset1 : List (Option Value) → Nat → Value → List (Option Value)
  | [], _, _ => []
  | _ :: t, 0, v => some v :: t
  | a :: t, 1, v => xcut a :: xset1 t 0 v
  | a :: t, i + 2, v => a :: xset1 t (i + 1) v
def xset2 : List (Option Value) → Nat → Value → List (Option Value)
  | [], _, _ => []
  | [_], 0, v => [some v]
  | _ :: _ :: t, 0, v => some v :: none :: t
  | a :: t, 1, v => xcut a :: xset2 t 0 v
  | a :: t, i + 2, v => a :: xset2 t (i + 1) v
def xprs (L : List (Option Value)) : List (Nat × Value) := L.zipIdx.filterMap (fun q => q.1.map (fun v => (q.2, v)))
theorem xprs_mem {L : List (Option Value)} {q : Nat × Value} : q ∈ xprs L ↔ L[q.1]? = some (some q.2) := by
  unfold xprs
  rw [List.mem_filterMap]
  constructor
  · rintro ⟨⟨a, i⟩, h1, h2⟩
    rw [List.mem_zipIdx_iff_getElem?] at h1
    cases a with
    | none => simp at h2
    | some w =>
      simp at h2
      subst h2
      exact h1
  · intro h
    exact ⟨(some q.2, q.1), List.mem_zipIdx_iff_getElem?.mpr h, by simp⟩
theorem xL_has {ls : Array Slot} {nL : Nat} {L : List (Option Value)} (h : xL ls nL L) : lv_has ls nL (xprs L) := ⟨h.1, h.2.1, fun q hq => h.2.2 q.1 q.2 (xprs_mem.mp hq)⟩
theorem xL_ix {L : List (Option Value)} {i : Nat} {v : Value} (h : L[i]? = some (some v)) : ∃ j : Nat, (xprs L)[j]? = some (i, v) := List.mem_iff_getElem?.mp (xprs_mem (q := (i, v)).mpr h)
theorem xcut_some {a : Option Value} {w : Value} (h : xcut a = some w) : a = some w ∧ ¬ w.category = 2 := by
  cases a with
  | none => simp [xcut] at h
  | some v => cases v <;> simp [xcut] at h <;> subst h <;> simp [Value.category]
theorem xset1_get : ∀ (L : List (Option Value)) (i : Nat) (v : Value) (j : Nat) (w : Value), (xset1 L i v)[j]? = some (some w) → (j = i ∧ w = v) ∨ (j ≠ i ∧ L[j]? = some (some w) ∧ ¬ (j + 1 = i ∧ w.category = 2))
  | [], i, v, j, w, h => by simp [xset1] at h
  | a :: t, 0, v, 0, w, h => by simp [xset1] at h; exact Or.inl ⟨rfl, h.symm⟩
  | a :: t, 0, v, j + 1, w, h => by simp [xset1] at h; exact Or.inr ⟨by omega, by simpa using h, by omega⟩
  | a :: t, 1, v, 0, w, h => by
    simp [xset1] at h
    obtain ⟨h1, h2⟩ := xcut_some h
    exact Or.inr ⟨by omega, by simp [h1], fun q => h2 q.2⟩
  | a :: t, 1, v, j + 1, w, h => by
    simp [xset1] at h
    rcases xset1_get t 0 v j w h with ⟨h1, h2⟩ | ⟨h1, h2, h3⟩
    · exact Or.inl ⟨by omega, h2⟩
    · exact Or.inr ⟨by omega, by simpa using h2, by omega⟩
  | a :: t, i + 2, v, 0, w, h => by simp [xset1] at h; exact Or.inr ⟨by omega, by simp [h], by omega⟩
  | a :: t, i + 2, v, j + 1, w, h => by
    simp [xset1] at h
    rcases xset1_get t (i + 1) v j w h with ⟨h1, h2⟩ | ⟨h1, h2, h3⟩
    · exact Or.inl ⟨by omega, h2⟩
    · exact Or.inr ⟨by omega, by simpa using h2, fun q => h3 ⟨by omega, q.2⟩⟩
theorem xset2_get : ∀ (L : List (Option Value)) (i : Nat) (v : Value) (j : Nat) (w : Value), (xset2 L i v)[j]? = some (some w) → (j = i ∧ w = v) ∨ (j ≠ i ∧ j ≠ i + 1 ∧ L[j]? = some (some w) ∧ ¬ (j + 1 = i ∧ w.category = 2))
  | [], i, v, j, w, h => by simp [xset2] at h
  | [a], 0, v, 0, w, h => by simp [xset2] at h; exact Or.inl ⟨rfl, h.symm⟩
  | [a], 0, v, j + 1, w, h => by simp [xset2] at h
  | a :: b :: t, 0, v, 0, w, h => by simp [xset2] at h; exact Or.inl ⟨rfl, h.symm⟩
  | a :: b :: t, 0, v, 1, w, h => by simp [xset2] at h
  | a :: b :: t, 0, v, j + 2, w, h => by simp [xset2] at h; exact Or.inr ⟨by omega, by omega, by simpa using h, by omega⟩
  | a :: t, 1, v, 0, w, h => by
    simp [xset2] at h
    obtain ⟨h1, h2⟩ := xcut_some h
    exact Or.inr ⟨by omega, by omega, by simp [h1], fun q => h2 q.2⟩
  | a :: t, 1, v, j + 1, w, h => by
    simp [xset2] at h
    rcases xset2_get t 0 v j w h with ⟨h1, h2⟩ | ⟨h1, h2, h3, h4⟩
    · exact Or.inl ⟨by omega, h2⟩
    · exact Or.inr ⟨by omega, by omega, by simpa using h3, by omega⟩
  | a :: t, i + 2, v, 0, w, h => by simp [xset2] at h; exact Or.inr ⟨by omega, by omega, by simp [h], by omega⟩
  | a :: t, i + 2, v, j + 1, w, h => by
    simp [xset2] at h
    rcases xset2_get t (i + 1) v j w h with ⟨h1, h2⟩ | ⟨h1, h2, h3, h4⟩
    · exact Or.inl ⟨by omega, h2⟩
    · exact Or.inr ⟨by omega, by omega, by simpa using h3, fun q => h4 ⟨by omega, q.2⟩⟩
theorem xL_of1 {ls : Array Slot} {nL i : Nat} {L : List (Option Value)} {v : Value} (h : lv_has ls nL ((i, v) :: (xprs L).filter (fun q => !(q.1 == i) && !(q.1 + 1 == i && q.2.category == 2)))) : xL ls nL (xset1 L i v) := by
  refine ⟨h.1, h.2.1, fun j w hw => ?_⟩
  rcases xset1_get L i v j w hw with ⟨rfl, rfl⟩ | ⟨h1, h2, h3⟩
  · exact h.2.2 (j, w) List.mem_cons_self
  · refine h.2.2 (j, w) (List.mem_cons_of_mem _ (List.mem_filter.mpr ⟨xprs_mem.mpr h2, ?_⟩))
    simp [h1]
    by_cases h4 : j + 1 = i
    · exact Or.inr fun h5 => h3 ⟨h4, h5⟩
    · exact Or.inl h4
theorem xL_of2 {ls : Array Slot} {nL i : Nat} {L : List (Option Value)} {v : Value} (h : lv_has ls nL ((i, v) :: (xprs L).filter (fun q => !(q.1 == i) && (!(q.1 == i + 1) && !(q.1 + 1 == i && q.2.category == 2))))) : xL ls nL (xset2 L i v) := by
  refine ⟨h.1, h.2.1, fun j w hw => ?_⟩
  rcases xset2_get L i v j w hw with ⟨rfl, rfl⟩ | ⟨h1, h2, h3, h4⟩
  · exact h.2.2 (j, w) List.mem_cons_self
  · refine h.2.2 (j, w) (List.mem_cons_of_mem _ (List.mem_filter.mpr ⟨xprs_mem.mpr h3, ?_⟩))
    simp [h1, h2]
    by_cases h5 : j + 1 = i
    · exact Or.inr fun h6 => h4 ⟨h5, h6⟩
    · exact Or.inl h5
