/-! The patterns of the class read as the stretches of the reference. zext: a position that one element reaches from positions that q allows. -/
def zext (E : Nat → Bool) (star : Bool) (q : Nat → Bool) : Nat → Bool
  | 0 => star && q 0
  | t + 1 => if star then q (t + 1) || (zext E star q t && E t) else q t && E t
theorem zext_iff {E : Nat → Bool} {star : Bool} {q : Nat → Bool} : ∀ t : Nat, zext E star q t = true ↔ ∃ f, f ≤ t ∧ q f = true ∧ (star = true ∨ t = f + 1) ∧ ∀ i, f ≤ i → i < t → E i = true
  | 0 => by
    simp only [zext, Bool.and_eq_true]
    constructor
    · intro h
      exact ⟨0, Nat.le_refl _, h.2, Or.inl h.1, fun i _ h => absurd h (Nat.not_lt_zero _)⟩
    · rintro ⟨f, h1, h2, h3, -⟩
      have : f = 0 := by omega
      subst this
      exact ⟨h3.resolve_right (by omega), h2⟩
  | t + 1 => by
    have ih := zext_iff (E := E) (star := star) (q := q) t
    unfold zext
    cases star
    · simp only [Bool.false_eq_true, if_false, Bool.and_eq_true, false_or]
      constructor
      · intro h
        exact ⟨t, by omega, h.1, rfl, fun i h1 h2 => by rw [show i = t by omega]; exact h.2⟩
      · rintro ⟨f, h1, h2, h3, h4⟩
        have : f = t := by omega
        subst this
        exact ⟨h2, h4 f (Nat.le_refl _) (by omega)⟩
    · simp only [if_true, Bool.or_eq_true, Bool.and_eq_true, true_or, true_and, ih]
      constructor
      · rintro (h | ⟨⟨f, h1, h2, h4⟩, h5⟩)
        · exact ⟨t + 1, Nat.le_refl _, h, fun i h1 h2 => by omega⟩
        · refine ⟨f, by omega, h2, fun i h6 h7 => ?_⟩
          by_cases e : i = t
          · rw [e]; exact h5
          · exact h4 i h6 (by omega)
      · rintro ⟨f, h1, h2, h4⟩
        by_cases e : f = t + 1
        · exact Or.inl (e ▸ h2)
        · exact Or.inr ⟨⟨f, by omega, h2, fun i h6 h7 => h4 i h6 (by omega)⟩, h4 t (by omega) (by omega)⟩
theorem tb_shl1 (s c : Nat) : (s <<< 1).testBit (c + 1) = s.testBit c := by simp [Nat.testBit_shiftLeft]
theorem tb_shl0 (s : Nat) : (s <<< 1).testBit 0 = false := by simp
theorem tb_shlf {s c : Nat} (h : ∀ c, s.testBit (3 * c + 2) = false) : (s <<< 1).testBit (3 * c) = false := by
  cases c with
  | zero => exact tb_shl0 s
  | succ c => rw [show 3 * (c + 1) = 3 * c + 2 + 1 by omega, tb_shl1]; exact h c
theorem pskip1_b {st s : Nat} (hs : ∀ c, st.testBit (3 * c + 2) = false) (c : Nat) : (pskip1 st s).testBit (3 * c) = s.testBit (3 * c) ∧ (pskip1 st s).testBit (3 * c + 1) = (s.testBit (3 * c + 1) || (s.testBit (3 * c) && st.testBit (3 * c))) ∧ (pskip1 st s).testBit (3 * c + 2) = (s.testBit (3 * c + 2) || (s.testBit (3 * c + 1) && st.testBit (3 * c + 1))) := by
  unfold pskip1
  refine ⟨?_, ?_, ?_⟩
  · rw [Nat.testBit_or, tb_shlf (fun c => by rw [Nat.testBit_and, hs, Bool.and_false]), Bool.or_false]
  · rw [Nat.testBit_or, tb_shl1, Nat.testBit_and]
  · rw [Nat.testBit_or, show 3 * c + 2 = 3 * c + 1 + 1 from rfl, tb_shl1, Nat.testBit_and]
theorem pskip_b {st s : Nat} (hs : ∀ c, st.testBit (3 * c + 2) = false) (c : Nat) : (pskip st s).testBit (3 * c) = s.testBit (3 * c) ∧ (pskip st s).testBit (3 * c + 1) = (s.testBit (3 * c + 1) || (s.testBit (3 * c) && st.testBit (3 * c))) ∧ (pskip st s).testBit (3 * c + 2) = (s.testBit (3 * c + 2) || ((s.testBit (3 * c + 1) || (s.testBit (3 * c) && st.testBit (3 * c))) && st.testBit (3 * c + 1))) := by
  unfold pskip
  obtain ⟨a0, a1, a2⟩ := pskip1_b (s := s) hs c
  obtain ⟨b0, b1, b2⟩ := pskip1_b (s := pskip1 st s) hs c
  rw [b0, b1, b2, a0, a1, a2]
  refine ⟨rfl, ?_, ?_⟩
  · cases s.testBit (3 * c + 1) <;> cases s.testBit (3 * c) <;> cases st.testBit (3 * c) <;> rfl
  · cases s.testBit (3 * c + 2) <;> cases s.testBit (3 * c + 1) <;> cases s.testBit (3 * c) <;> cases st.testBit (3 * c) <;> cases st.testBit (3 * c + 1) <;> rfl
/-- what one pair read brings, before the skipping -/
def zin (hv st ls s : Nat) : Nat := (((s &&& hv) &&& st) ||| (clr (s &&& hv) st <<< 1)) ||| ls
theorem zin_b {hv st ls s : Nat} (hh : ∀ c, hv.testBit (3 * c + 2) = false) (c : Nat) : (zin hv st ls s).testBit (3 * c) = ((s.testBit (3 * c) && hv.testBit (3 * c) && st.testBit (3 * c)) || ls.testBit (3 * c)) ∧ (zin hv st ls s).testBit (3 * c + 1) = ((s.testBit (3 * c + 1) && hv.testBit (3 * c + 1) && st.testBit (3 * c + 1)) || (s.testBit (3 * c) && hv.testBit (3 * c) && !st.testBit (3 * c)) || ls.testBit (3 * c + 1)) ∧ (zin hv st ls s).testBit (3 * c + 2) = ((s.testBit (3 * c + 1) && hv.testBit (3 * c + 1) && !st.testBit (3 * c + 1)) || ls.testBit (3 * c + 2)) := by
  unfold zin
  refine ⟨?_, ?_, ?_⟩
  · rw [Nat.testBit_or, Nat.testBit_or, Nat.testBit_and, Nat.testBit_and, tb_shlf (fun c => by rw [clr_bit, Nat.testBit_and, hh, Bool.and_false, Bool.false_and]), Bool.or_false]
  · rw [Nat.testBit_or, Nat.testBit_or, Nat.testBit_and, Nat.testBit_and, tb_shl1, clr_bit, Nat.testBit_and]
  · rw [Nat.testBit_or, Nat.testBit_or, Nat.testBit_and, Nat.testBit_and, hh, Bool.and_false, Bool.false_and, Bool.false_or, show 3 * c + 2 = 3 * c + 1 + 1 from rfl, tb_shl1, clr_bit, Nat.testBit_and]
def zpix (fl : Bool) (c : Nat) : Nat := 2 * c + (if fl then 0 else 1)
def zeix (fl : Bool) (c n t : Nat) : Nat := 2 * zpix fl c + (if fl then t + n - 2 else 1 - t)
def zopn (V : xV) (c : Nat) : Bool := decide (c % 2 < V.2.2.1 (c / 2))
/-- the patterns p hold what V says of its side -/
def zEnc (fl : Bool) (p : xPt) (V : xV) : Prop := ∀ c, p.1 c = V.2.2.2.2.1 (zpix fl c) ∧ p.1 c ≤ 2 ∧ (zopn V c = false → p.1 c = 0) ∧ ∀ t, t < 3 → (∀ i, (p.2.1 i).testBit (3 * c + t) = (decide (2 ≤ t + p.1 c ∧ t < 2) && inB V (zeix fl c (p.1 c) t) i)) ∧ p.2.2.1.testBit (3 * c + t) = (decide (2 ≤ t + p.1 c ∧ t < 2) && V.2.2.2.2.2.2 (zeix fl c (p.1 c) t)) ∧ p.2.2.2.1.testBit (3 * c + t) = (decide (t + p.1 c = 2) && zopn V c) ∧ p.2.2.2.2.testBit (3 * c + t) = (decide (t + p.1 c = 2) && zopn V c && !V.2.2.2.1 (zpix fl c))
/-- the positions that a context's side reaches after t pairs y 0, y 1 .. -/
def zq0 (V : xV) (fl : Bool) (c : Nat) (t : Nat) : Bool := zopn V c && (!V.2.2.2.1 (zpix fl c) || t == 0)
def zel (V : xV) (fl : Bool) (c n t : Nat) (y : Nat → Nat) (q : Nat → Bool) : Nat → Bool := zext (fun j => inB V (zeix fl c n t) (y j)) (V.2.2.2.2.2.2 (zeix fl c n t)) q
def zgoal (V : xV) (fl : Bool) (c : Nat) (n : Nat) (y : Nat → Nat) : Nat → Bool :=
  if n = 0 then zq0 V fl c else if n = 1 then zel V fl c 1 1 y (zq0 V fl c) else zel V fl c 2 1 y (zel V fl c 2 0 y (zq0 V fl c))
def zrun (p : xPt) (y : Nat → Nat) : Nat → Nat
  | 0 => pfst p
  | t + 1 => pnx p (zrun p y t) (y t)
/-- how the three bits of a context stand -/
def zst (V : xV) (fl : Bool) (c n : Nat) (y : Nat → Nat) (t : Nat) (s : Nat) : Prop :=
  (n = 0 → s.testBit (3 * c) = false ∧ s.testBit (3 * c + 1) = false ∧ s.testBit (3 * c + 2) = zq0 V fl c t) ∧
  (n = 1 → s.testBit (3 * c) = false ∧ s.testBit (3 * c + 1) = (if V.2.2.2.2.2.2 (zeix fl c 1 1) then zel V fl c 1 1 y (zq0 V fl c) t else zq0 V fl c t) ∧ s.testBit (3 * c + 2) = zel V fl c 1 1 y (zq0 V fl c) t) ∧
  (n = 2 → s.testBit (3 * c) = (if V.2.2.2.2.2.2 (zeix fl c 2 0) then zel V fl c 2 0 y (zq0 V fl c) t else zq0 V fl c t) ∧ s.testBit (3 * c + 1) = (if V.2.2.2.2.2.2 (zeix fl c 2 1) then zel V fl c 2 1 y (zel V fl c 2 0 y (zq0 V fl c)) t else zel V fl c 2 0 y (zq0 V fl c) t) ∧ s.testBit (3 * c + 2) = zel V fl c 2 1 y (zel V fl c 2 0 y (zq0 V fl c)) t)
theorem zEnc.st2 {fl : Bool} {p : xPt} {V : xV} (H : zEnc fl p V) (c : Nat) : p.2.2.1.testBit (3 * c + 2) = false := by
  have := ((H c).2.2.2 2 (by omega)).2.1
  simpa using this
theorem zEnc.hv2 {fl : Bool} {p : xPt} {V : xV} (H : zEnc fl p V) (i c : Nat) : (p.2.1 i).testBit (3 * c + 2) = false := by
  have := ((H c).2.2.2 2 (by omega)).1 i
  simpa using this
theorem zEnc.run {fl : Bool} {p : xPt} {V : xV} {y : Nat → Nat} (H : zEnc fl p V) (c : Nat) : ∀ t, zst V fl c (p.1 c) y t (zrun p y t)
  | 0 => by
    obtain ⟨-, h2, -, h4⟩ := H c
    obtain ⟨-, s0, e0, l0⟩ := h4 0 (by omega)
    obtain ⟨-, s1, e1, l1⟩ := h4 1 (by omega)
    obtain ⟨-, s2, e2, l2⟩ := h4 2 (by omega)
    obtain ⟨a0, a1, a2⟩ := pskip_b (s := p.2.2.2.1) H.st2 c
    rw [Nat.add_zero] at s0 e0
    unfold zrun pfst zst
    rw [a0, a1, a2, e0, e1, e2, s0, s1]
    refine ⟨fun hn => ?_, fun hn => ?_, fun hn => ?_⟩
    · rw [hn]; simp [zq0]
    · rw [hn]
      generalize hS : V.2.2.2.2.2.2 (zeix fl c 1 1) = S
      simp only [zel, zext, hS, zq0]
      cases S <;> simp
    · rw [hn]
      generalize hS : V.2.2.2.2.2.2 (zeix fl c 2 1) = S
      generalize hT : V.2.2.2.2.2.2 (zeix fl c 2 0) = T
      simp only [zel, zext, hS, hT, zq0]
      cases S <;> cases T <;> simp
  | t + 1 => by
    have ih := zEnc.run (y := y) H c t
    obtain ⟨-, h2, -, h4⟩ := H c
    obtain ⟨v0, s0, -, l0⟩ := h4 0 (by omega)
    obtain ⟨v1, s1, -, l1⟩ := h4 1 (by omega)
    obtain ⟨v2, s2, -, l2⟩ := h4 2 (by omega)
    have v0 := v0 (y t)
    have v1 := v1 (y t)
    obtain ⟨a0, a1, a2⟩ := pskip_b (s := zin (p.2.1 (y t)) p.2.2.1 p.2.2.2.2 (zrun p y t)) H.st2 c
    obtain ⟨b0, b1, b2⟩ := zin_b (hv := p.2.1 (y t)) (st := p.2.2.1) (ls := p.2.2.2.2) (s := zrun p y t) (H.hv2 (y t)) c
    rw [Nat.add_zero] at s0 l0 v0
    show zst V fl c (p.1 c) y (t + 1) (pskip p.2.2.1 (zin (p.2.1 (y t)) p.2.2.1 p.2.2.2.2 (zrun p y t)))
    unfold zst at ih ⊢
    rw [a0, a1, a2, b0, b1, b2, l0, l1, l2, s0, s1, v0, v1]
    refine ⟨fun hn => ?_, fun hn => ?_, fun hn => ?_⟩
    · obtain ⟨i0, i1, i2⟩ := ih.1 hn
      rw [hn, i0, i1]; simp [zq0]
    · obtain ⟨i0, i1, i2⟩ := ih.2.1 hn
      rw [hn, i0, i1]
      generalize hS : V.2.2.2.2.2.2 (zeix fl c 1 1) = S
      generalize hE : inB V (zeix fl c 1 1) (y t) = E
      simp only [zel, zext, hS, hE, zq0]
      cases S <;> cases E <;> simp [Bool.or_comm]
    · obtain ⟨i0, i1, i2⟩ := ih.2.2 hn
      rw [hn, i0, i1]
      generalize hS : V.2.2.2.2.2.2 (zeix fl c 2 1) = S
      generalize hE : inB V (zeix fl c 2 1) (y t) = E
      generalize hT : V.2.2.2.2.2.2 (zeix fl c 2 0) = T
      generalize hF : inB V (zeix fl c 2 0) (y t) = F
      simp only [zel, zext, hS, hE, hT, hF, zq0]
      cases S <;> cases E <;> cases T <;> cases F <;> simp [Bool.or_comm, Bool.or_left_comm]
theorem zEnc.goal {fl : Bool} {p : xPt} {V : xV} {y : Nat → Nat} (H : zEnc fl p V) (c t : Nat) : (zrun p y t).testBit (3 * c + 2) = zgoal V fl c (V.2.2.2.2.1 (zpix fl c)) y t := by
  have hr := H.run (y := y) c t
  obtain ⟨h1, h2, -⟩ := H c
  unfold zgoal
  rw [← h1]
  by_cases e0 : p.1 c = 0
  · rw [if_pos e0]; exact (hr.1 e0).2.2
  by_cases e1 : p.1 c = 1
  · rw [if_neg e0, if_pos e1]; exact (hr.2.1 e1).2.2
  · rw [if_neg e0, if_neg e1]; exact (hr.2.2 (by omega)).2.2
