/-! The patterns stay what the reference says, call after call. -/
theorem pfield_tb {c i : Nat} : (pfield c).testBit i = decide (3 * c ≤ i ∧ i < 3 * c + 3) := by
  unfold pfield
  rw [Nat.testBit_shiftLeft, show (7 : Nat) = 2 ^ 3 - 1 from rfl, Nat.testBit_two_pow_sub_one]
  rw [Bool.eq_iff_iff, Bool.and_eq_true, decide_eq_true_eq, decide_eq_true_eq, decide_eq_true_eq]
  omega
theorem plow_tb {b c c0 t : Nat} (ht : t < 3) (hb : b.testBit (3 * c0) = false) : (plow b c0).testBit (3 * c + t) = if c = c0 then (decide (t < 2) && b.testBit (3 * c + (t + 1))) else b.testBit (3 * c + t) := by
  unfold plow
  rw [Nat.testBit_or, clr_bit, Nat.testBit_shiftRight, Nat.testBit_and, pfield_tb, pfield_tb]
  by_cases e : c = c0
  · subst e
    rw [if_pos rfl, decide_eq_true (by omega), show 1 + (3 * c + t) = 3 * c + (t + 1) by omega, Bool.not_true, Bool.and_false, Bool.false_or, Bool.and_comm]
    congr 1
    rw [decide_eq_decide]; omega
  · rw [if_neg e, decide_eq_false (p := 3 * c0 ≤ 3 * c + t ∧ 3 * c + t < 3 * c0 + 3) (by omega)]
    by_cases e2 : 1 + (3 * c + t) = 3 * c0
    · rw [e2, hb]; simp
    · rw [decide_eq_false (by omega)]; simp
theorem pbit_tb {fl : Bool} {c n i : Nat} (hn : n ≤ 2) : (pbit fl c n).testBit i = decide (i + (if fl then 1 else n) = 3 * c + 2) := by
  unfold pbit
  rw [Nat.testBit_shiftRight, pgoal_tb, decide_eq_decide]
  omega
theorem padS_tb {fl v : Bool} {c0 n x : Nat} {g : Nat → Bool} (hn : n < 2) (hx : ∀ t, t < 3 → x.testBit (3 * c0 + t) = (decide (2 ≤ t + n ∧ t < 2) && g (zeix fl c0 n t))) (t : Nat) (ht : t < 3) : (padS fl c0 (n + 1) v x).testBit (3 * c0 + t) = (decide (2 ≤ t + (n + 1) ∧ t < 2) && va_up g (2 * zpix fl c0 + n) v (zeix fl c0 (n + 1) t)) := by
  have h0 : x.testBit (3 * c0) = false := by
    have := hx 0 (by omega)
    rw [Nat.add_zero] at this
    rw [this, decide_eq_false (by omega), Bool.false_and]
  have hb : (padS fl c0 (n + 1) v x).testBit (3 * c0 + t) = ((padL fl c0 x).testBit (3 * c0 + t) || (v && decide (t + (if fl then 1 else n + 1) = 2))) := by
    unfold padS
    cases v
    · simp
    · rw [if_pos rfl, Nat.testBit_or, pbit_tb (by omega), Bool.true_and]
      congr 1
      rw [decide_eq_decide]; omega
  rw [hb]
  cases fl
  · simp only [padL, Bool.false_eq_true, if_false]
    rw [hx t ht]
    unfold zeix
    simp only [Bool.false_eq_true, if_false]
    by_cases e : t + (n + 1) = 2
    · rw [show 1 - t = n by omega, va_up_self, decide_eq_false (p := 2 ≤ t + n ∧ t < 2) (by omega), decide_eq_true e, decide_eq_true (by omega)]; simp
    · rw [decide_eq_false e, Bool.and_false, Bool.or_false]
      by_cases e2 : 2 ≤ t + n ∧ t < 2
      · rw [decide_eq_true e2, decide_eq_true (by omega), va_up_ne _ _ (by omega)]
      · rw [decide_eq_false e2, decide_eq_false (by omega)]; simp
  · simp only [padL, if_true]
    rw [plow_tb ht h0, if_pos rfl]
    unfold zeix
    simp only [if_true]
    by_cases e : t < 2
    · rw [decide_eq_true e, hx (t + 1) (by omega), Bool.true_and]
      unfold zeix
      simp only [if_true]
      by_cases e1 : t = 1
      · subst e1
        rw [decide_eq_false (by omega), decide_eq_true (by omega), decide_eq_true (by omega), show 1 + (n + 1) - 2 = n by omega, va_up_self]; simp
      · have e0 : t = 0 := by omega
        subst e0
        rw [decide_eq_false (p := 0 + 1 = 2) (by omega), Bool.and_false, Bool.or_false]
        by_cases e2 : n = 1
        · subst e2
          rw [va_up_ne _ _ (by omega)]
          simp
        · rw [decide_eq_false (by omega), decide_eq_false (by omega)]; simp
    · rw [decide_eq_false e, decide_eq_false (by omega), decide_eq_false (by omega)]; simp
theorem padS_tbo {fl v : Bool} {c c0 n x : Nat} (hn : n < 2) (h0 : fl = true → x.testBit (3 * c0) = false) (hc : c ≠ c0) (t : Nat) (ht : t < 3) : (padS fl c0 (n + 1) v x).testBit (3 * c + t) = x.testBit (3 * c + t) := by
  have hL : (padL fl c0 x).testBit (3 * c + t) = x.testBit (3 * c + t) := by
    unfold padL
    cases fl
    · rfl
    · rw [if_pos rfl, plow_tb ht (h0 rfl), if_neg hc]
  unfold padS
  cases v
  · exact hL
  · rw [if_pos rfl, Nat.testBit_or, pbit_tb (by omega), hL, decide_eq_false (by cases fl <;> simp <;> omega), Bool.or_false]
theorem zpix_ne {fl fl' : Bool} {c c' : Nat} (h : c ≠ c' ∨ fl ≠ fl') : zpix fl c ≠ zpix fl' c' := by
  unfold zpix
  cases fl <;> cases fl' <;> simp at h ⊢ <;> omega
theorem zeix_ne {fl fl' : Bool} {c c' n t k : Nat} (h : c ≠ c' ∨ fl ≠ fl') (hn : n ≤ 2) (ht : t < 2) (hk : k < 2) : zeix fl c n t ≠ 2 * zpix fl' c' + k := by
  have := zpix_ne h
  unfold zeix
  cases fl <;> simp <;> omega
def zElV (V : xV) (p s : Nat) (st : Bool) : xV := (V.1, V.2.1, V.2.2.1, V.2.2.2.1, va_up V.2.2.2.2.1 p (V.2.2.2.2.1 p + 1), va_up V.2.2.2.2.2.1 (2 * p + V.2.2.2.2.1 p) s, va_up V.2.2.2.2.2.2 (2 * p + V.2.2.2.2.1 p) st)
theorem zEnc.add {fl : Bool} {p : xPt} {V : xV} {c s : Nat} {st : Bool} (H : zEnc fl p V) (ho : zopn V c = true) (hn : V.2.2.2.2.1 (zpix fl c) < 2) : zEnc fl (ptAdd fl p c s st) (zElV V (zpix fl c) s st) := by
  intro c1
  obtain ⟨a1, a2, a3, a4⟩ := H c1
  obtain ⟨b1, b2, b3, b4⟩ := H c
  have hss : p.2.2.2.1.testBit (3 * c) = false := by
    have := (b4 0 (by omega)).2.2.1
    rw [Nat.add_zero] at this
    rw [this, decide_eq_false (by omega), Bool.false_and]
  have hls : p.2.2.2.2.testBit (3 * c) = false := by
    have := (b4 0 (by omega)).2.2.2
    rw [Nat.add_zero] at this
    rw [this, decide_eq_false (by omega), Bool.false_and, Bool.false_and]
  have hst : p.2.2.1.testBit (3 * c) = false := by
    have := (b4 0 (by omega)).2.1
    rw [Nat.add_zero] at this
    rw [this, decide_eq_false (by omega), Bool.false_and]
  have hhv : ∀ i, (p.2.1 i).testBit (3 * c) = false := by
    intro i
    have := (b4 0 (by omega)).1 i
    rw [Nat.add_zero] at this
    rw [this, decide_eq_false (by omega), Bool.false_and]
  show va_up p.1 c (p.1 c + 1) c1 = va_up V.2.2.2.2.1 (zpix fl c) (V.2.2.2.2.1 (zpix fl c) + 1) (zpix fl c1) ∧ va_up p.1 c (p.1 c + 1) c1 ≤ 2 ∧ (zopn V c1 = false → va_up p.1 c (p.1 c + 1) c1 = 0) ∧ ∀ t, t < 3 → (∀ i, (padS fl c (p.1 c + 1) (s.testBit i) (p.2.1 i)).testBit (3 * c1 + t) = (decide (2 ≤ t + va_up p.1 c (p.1 c + 1) c1 ∧ t < 2) && (va_up V.2.2.2.2.2.1 (2 * zpix fl c + V.2.2.2.2.1 (zpix fl c)) s (zeix fl c1 (va_up p.1 c (p.1 c + 1) c1) t)).testBit i)) ∧ (padS fl c (p.1 c + 1) st p.2.2.1).testBit (3 * c1 + t) = (decide (2 ≤ t + va_up p.1 c (p.1 c + 1) c1 ∧ t < 2) && va_up V.2.2.2.2.2.2 (2 * zpix fl c + V.2.2.2.2.1 (zpix fl c)) st (zeix fl c1 (va_up p.1 c (p.1 c + 1) c1) t)) ∧ (plow p.2.2.2.1 c).testBit (3 * c1 + t) = (decide (t + va_up p.1 c (p.1 c + 1) c1 = 2) && zopn V c1) ∧ (plow p.2.2.2.2 c).testBit (3 * c1 + t) = (decide (t + va_up p.1 c (p.1 c + 1) c1 = 2) && zopn V c1 && !V.2.2.2.1 (zpix fl c1))
  by_cases e : c1 = c
  · subst e
    rw [va_up_self, va_up_self, ← a1]
    refine ⟨rfl, by omega, fun h => by rw [ho] at h; exact absurd h (by decide), fun t ht => ⟨fun i => ?_, ?_, ?_, ?_⟩⟩
    · rw [padS_tb (g := fun e => inB V e i) (by omega) (fun t ht => (a4 t ht).1 i) t ht]
      congr 1
      by_cases e2 : zeix fl c1 (p.1 c1 + 1) t = 2 * zpix fl c1 + p.1 c1
      · rw [e2, va_up_self, va_up_self]
      · rw [va_up_ne _ _ e2, va_up_ne _ _ e2]; rfl
    · exact padS_tb (by omega) (fun t ht => (a4 t ht).2.1) t ht
    · rw [plow_tb ht hss, if_pos rfl]
      by_cases e2 : t < 2
      · rw [(a4 (t + 1) (by omega)).2.2.1, decide_eq_true e2, Bool.true_and]
        congr 1
        rw [decide_eq_decide]; omega
      · rw [decide_eq_false e2, decide_eq_false (by omega)]; rfl
    · rw [plow_tb ht hls, if_pos rfl]
      by_cases e2 : t < 2
      · rw [(a4 (t + 1) (by omega)).2.2.2, decide_eq_true e2, Bool.true_and]
        congr 2
        rw [decide_eq_decide]; omega
      · rw [decide_eq_false e2, decide_eq_false (by omega)]; rfl
  · rw [va_up_ne _ _ e, va_up_ne _ _ (zpix_ne (Or.inl e))]
    refine ⟨a1, a2, a3, fun t ht => ⟨fun i => ?_, ?_, ?_, ?_⟩⟩
    · rw [padS_tbo (by omega) (fun _ => hhv i) e t ht, (a4 t ht).1 i]
      by_cases e2 : t < 2
      · rw [va_up_ne _ _ (zeix_ne (Or.inl e) a2 e2 hn)]; rfl
      · rw [decide_eq_false (by omega)]; rfl
    · rw [padS_tbo (by omega) (fun _ => hst) e t ht, (a4 t ht).2.1]
      by_cases e2 : t < 2
      · rw [va_up_ne _ _ (zeix_ne (Or.inl e) a2 e2 hn)]
      · rw [decide_eq_false (by omega)]; rfl
    · rw [plow_tb ht hss, if_neg e]; exact (a4 t ht).2.2.1
    · rw [plow_tb ht hls, if_neg e]; exact (a4 t ht).2.2.2
theorem zEnc.oth {fl fl' : Bool} {p : xPt} {V : xV} {c s : Nat} {st : Bool} (H : zEnc fl p V) (hf : fl ≠ fl') (hn : V.2.2.2.2.1 (zpix fl' c) < 2) : zEnc fl p (zElV V (zpix fl' c) s st) := by
  intro c1
  obtain ⟨a1, a2, a3, a4⟩ := H c1
  refine ⟨?_, a2, a3, fun t ht => ⟨fun i => ?_, ?_, (a4 t ht).2.2.1, (a4 t ht).2.2.2⟩⟩
  · show p.1 c1 = va_up V.2.2.2.2.1 (zpix fl' c) _ (zpix fl c1)
    rw [va_up_ne _ _ (zpix_ne (Or.inr hf))]; exact a1
  · rw [(a4 t ht).1 i]
    by_cases e2 : t < 2
    · show _ = (_ && (va_up V.2.2.2.2.2.1 (2 * zpix fl' c + V.2.2.2.2.1 (zpix fl' c)) s (zeix fl c1 (p.1 c1) t)).testBit i)
      rw [va_up_ne _ _ (zeix_ne (Or.inr hf) a2 e2 hn)]; rfl
    · rw [decide_eq_false (by omega)]; rfl
  · rw [(a4 t ht).2.1]
    by_cases e2 : t < 2
    · show _ = (_ && (va_up V.2.2.2.2.2.2 (2 * zpix fl' c + V.2.2.2.2.1 (zpix fl' c)) st (zeix fl c1 (p.1 c1) t)))
      rw [va_up_ne _ _ (zeix_ne (Or.inr hf) a2 e2 hn)]
    · rw [decide_eq_false (by omega)]; rfl
def zCxV (V : xV) (r : Nat) (t1 t2 : Bool) : xV := (V.1, V.2.1, va_up V.2.2.1 r (V.2.2.1 r + 1), va_up (va_up V.2.2.2.1 (2 * (2 * r + V.2.2.1 r)) t1) (2 * (2 * r + V.2.2.1 r) + 1) t2, V.2.2.2.2)
theorem zopn_cx {V : xV} {r c : Nat} {t1 t2 : Bool} (hr : V.2.2.1 r < 2) : zopn (zCxV V r t1 t2) c = (zopn V c || decide (c = 2 * r + V.2.2.1 r)) := by
  unfold zopn
  show decide (c % 2 < va_up V.2.2.1 r (V.2.2.1 r + 1) (c / 2)) = _
  by_cases e : c / 2 = r
  · rw [e, va_up_self, Bool.eq_iff_iff, Bool.or_eq_true, decide_eq_true_eq, decide_eq_true_eq, decide_eq_true_eq]
    omega
  · rw [va_up_ne _ _ e, decide_eq_false (p := c = 2 * r + V.2.2.1 r) (by omega), Bool.or_false]
theorem zEnc.opn {fl : Bool} {p : xPt} {V : xV} {r : Nat} {t1 t2 : Bool} (H : zEnc fl p V) (hr : V.2.2.1 r < 2) : zEnc fl (ptOpen p (2 * r + V.2.2.1 r) (if fl then t1 else t2)) (zCxV V r t1 t2) := by
  intro c1
  obtain ⟨a1, a2, a3, a4⟩ := H c1
  have hc0 : zopn V (2 * r + V.2.2.1 r) = false := by
    unfold zopn
    rw [show (2 * r + V.2.2.1 r) % 2 = V.2.2.1 r by omega, show (2 * r + V.2.2.1 r) / 2 = r by omega]
    exact decide_eq_false (by omega)
  refine ⟨a1, a2, fun h => ?_, fun t ht => ⟨(a4 t ht).1, (a4 t ht).2.1, ?_, ?_⟩⟩
  · rw [zopn_cx hr] at h
    exact a3 (by cases hz : zopn V c1; rfl; rw [hz] at h; simp at h)
  · show (p.2.2.2.1 ||| pgoal (2 * r + V.2.2.1 r)).testBit (3 * c1 + t) = (decide (t + p.1 c1 = 2) && zopn (zCxV V r t1 t2) c1)
    rw [Nat.testBit_or, pgoal_tb, (a4 t ht).2.2.1, zopn_cx hr]
    by_cases e : c1 = 2 * r + V.2.2.1 r
    · rw [← e] at hc0
      rw [← e, hc0, a3 hc0, decide_eq_true (p := c1 = c1) rfl, Bool.false_or, Bool.and_false, Bool.false_or, Bool.and_true, decide_eq_decide]
      omega
    · rw [decide_eq_false (p := c1 = 2 * r + V.2.2.1 r) e, decide_eq_false (p := 3 * c1 + t = 3 * (2 * r + V.2.2.1 r) + 2) (by omega), Bool.or_false, Bool.or_false]
  · show (if (if fl then t1 else t2) then p.2.2.2.2 else p.2.2.2.2 ||| pgoal (2 * r + V.2.2.1 r)).testBit (3 * c1 + t) = (decide (t + p.1 c1 = 2) && zopn (zCxV V r t1 t2) c1 && !(va_up (va_up V.2.2.2.1 (2 * (2 * r + V.2.2.1 r)) t1) (2 * (2 * r + V.2.2.1 r) + 1) t2 (zpix fl c1)))
    have hb : (if (if fl then t1 else t2) then p.2.2.2.2 else p.2.2.2.2 ||| pgoal (2 * r + V.2.2.1 r)).testBit (3 * c1 + t) = (p.2.2.2.2.testBit (3 * c1 + t) || (!(if fl then t1 else t2) && decide (3 * c1 + t = 3 * (2 * r + V.2.2.1 r) + 2))) := by
      cases (if fl then t1 else t2)
      · simp [Nat.testBit_or, pgoal_tb]
      · simp
    rw [hb, (a4 t ht).2.2.2, zopn_cx hr]
    by_cases e : c1 = 2 * r + V.2.2.1 r
    · rw [← e] at hc0
      have ht1 : va_up (va_up V.2.2.2.1 (2 * c1) t1) (2 * c1 + 1) t2 (zpix fl c1) = (if fl then t1 else t2) := by
        unfold zpix
        cases fl
        · exact va_up_self _ _ _
        · rw [if_pos rfl, va_up_ne _ _ (by omega), Nat.add_zero, va_up_self]; rfl
      rw [← e, ht1, hc0, a3 hc0, decide_eq_true (p := c1 = c1) rfl, Bool.false_or, Bool.and_false, Bool.false_and, Bool.false_or, Bool.and_true, Bool.and_comm]
      congr 1
      rw [decide_eq_decide]; omega
    · rw [decide_eq_false (p := c1 = 2 * r + V.2.2.1 r) e, decide_eq_false (p := 3 * c1 + t = 3 * (2 * r + V.2.2.1 r) + 2) (by omega), Bool.or_false, Bool.and_false, Bool.or_false, va_up_ne _ _ (by unfold zpix; cases fl <;> simp <;> omega), va_up_ne _ _ (by unfold zpix; cases fl <;> simp <;> omega)]
