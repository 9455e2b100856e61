/-! Class and reference in step: zEn. -/
def zEn (A : xMA) (q : xQ) : Prop := zWV q.1 A.1 ∧ q.2 = A.2
def xm0 : xMA := (([], [], fun _ => 0, fun _ => false, fun _ => 0, fun _ => 0, fun _ => false), [], [], [], [], [])
theorem zEnc.zero (fl : Bool) : zEnc fl xp0 xm0.1 := by
  intro c
  refine ⟨rfl, Nat.zero_le _, fun _ => rfl, fun t ht => ⟨fun i => ?_, ?_, ?_, ?_⟩⟩
  · show (0 : Nat).testBit _ = (_ && (0 : Nat).testBit i)
    rw [Nat.zero_testBit, Nat.zero_testBit, Bool.and_false]
  · show (0 : Nat).testBit _ = (_ && false)
    rw [Nat.zero_testBit, Bool.and_false]
  · show (0 : Nat).testBit _ = (_ && decide (c % 2 < 0))
    rw [Nat.zero_testBit, decide_eq_false (Nat.not_lt_zero _), Bool.and_false]
  · show (0 : Nat).testBit _ = (_ && decide (c % 2 < 0) && _)
    rw [Nat.zero_testBit, decide_eq_false (Nat.not_lt_zero _), Bool.and_false, Bool.false_and]
theorem zEn.zero : zEn xm0 xq0 := ⟨⟨rfl, rfl, rfl, zEnc.zero true, zEnc.zero false, fun _ => Nat.zero_le _⟩, rfl⟩
theorem zEn.parts {A : xMA} {q : xQ} (H : zEn A q) : q.1.1 = A.1.1 ∧ q.1.2.1 = A.1.2.1 ∧ q.1.2.2.1 = A.1.2.2.1 ∧ q.2 = A.2 := ⟨H.1.1, H.1.2.1, H.1.2.2.1, H.2⟩
section STEP
variable {A : xMA} {q : xQ}
theorem st_pair (H : zEn A q) (a b : Int32) : (opPair q a b).1 = (mdPair A a b).1 ∧ zEn (mdPair A a b).2 (opPair q a b).2 := by
  obtain ⟨⟨h1, h2, h3, h4, h5, h6⟩, h7⟩ := H
  unfold opPair mdPair
  rw [h1, h7]
  generalize (if a.toInt.toNat = 0 then 2 else 3) = lim
  split
  · exact ⟨rfl, ⟨h1, h2, h3, h4, h5, h6⟩, h7⟩
  split
  · exact ⟨rfl, ⟨h1, h2, h3, h4, h5, h6⟩, h7⟩
  split
  · exact ⟨rfl, ⟨rfl, h2, h3, h4, h5, h6⟩, rfl⟩
  · exact ⟨rfl, ⟨h1, h2, h3, h4, h5, h6⟩, h7⟩
theorem st_rule (H : zEn A q) (a b : Int32) : (opRule q a b).1 = (mdRule A a b).1 ∧ zEn (mdRule A a b).2 (opRule q a b).2 := by
  obtain ⟨⟨h1, h2, h3, h4, h5, h6⟩, h7⟩ := H
  unfold opRule mdRule
  rw [h1, h2, h7]
  split
  · exact ⟨rfl, ⟨h1, h2, h3, h4, h5, h6⟩, h7⟩
  split
  · exact ⟨rfl, ⟨rfl, rfl, h3, h4, h5, h6⟩, rfl⟩
  · exact ⟨rfl, ⟨h1, h2, h3, h4, h5, h6⟩, h7⟩
theorem st_ctx (H : zEn A q) (r : Int32) (t1 t2 : Bool) : (opCtx q r t1 t2).1 = (mdCtx A r t1 t2).1 ∧ zEn (mdCtx A r t1 t2).2 (opCtx q r t1 t2).2 := by
  obtain ⟨⟨h1, h2, h3, h4, h5, h6⟩, h7⟩ := H
  unfold opCtx mdCtx
  rw [h1, h2, h3, h7]
  split
  · exact ⟨rfl, ⟨h1, h2, h3, h4, h5, h6⟩, h7⟩
  split
  · rename_i hr
    refine ⟨rfl, ⟨rfl, rfl, rfl, h4.opn (t1 := t1) (t2 := t2) hr, h5.opn (t1 := t1) (t2 := t2) hr, fun j => ?_⟩, rfl⟩
    show va_up A.1.2.2.1 r.toInt.toNat _ j ≤ 2
    by_cases e : j = r.toInt.toNat
    · rw [e, va_up_self]; omega
    · rw [va_up_ne _ _ e]; exact h6 j
  · exact ⟨rfl, ⟨h1, h2, h3, h4, h5, h6⟩, h7⟩
theorem st_el (H : zEn A q) (r : Int32) (bh : Bool) (s : Int32) (st : Bool) : (opEl q r bh s st).1 = (mdEl A r bh s st).1 ∧ zEn (mdEl A r bh s st).2 (opEl q r bh s st).2 := by
  obtain ⟨⟨h1, h2, h3, h4, h5, h6⟩, h7⟩ := H
  unfold opEl mdEl
  rw [h1, h2, h3, h7]
  split
  · exact ⟨rfl, ⟨h1, h2, h3, h4, h5, h6⟩, h7⟩
  split
  · exact ⟨rfl, ⟨h1, h2, h3, h4, h5, h6⟩, h7⟩
  split
  · exact ⟨rfl, ⟨h1, h2, h3, h4, h5, h6⟩, h7⟩
  rename_i hcx
  have hc2 := h6 r.toInt.toNat
  have ho : zopn A.1 (2 * r.toInt.toNat + A.1.2.2.1 r.toInt.toNat - 1) = true := by
    unfold zopn
    rw [show (2 * r.toInt.toNat + A.1.2.2.1 r.toInt.toNat - 1) % 2 = A.1.2.2.1 r.toInt.toNat - 1 by omega, show (2 * r.toInt.toNat + A.1.2.2.1 r.toInt.toNat - 1) / 2 = r.toInt.toNat by omega]
    exact decide_eq_true (by omega)
  cases bh
  · have ez : elp A r.toInt.toNat false = zpix true (2 * r.toInt.toNat + A.1.2.2.1 r.toInt.toNat - 1) := rfl
    have en : q.1.2.2.2.1.1 (2 * r.toInt.toNat + A.1.2.2.1 r.toInt.toNat - 1) = A.1.2.2.2.2.1 (elp A r.toInt.toNat false) := (h4 _).1
    simp only [Bool.false_eq_true, if_false]
    rw [en]
    split
    · rename_i hn
      rw [ez] at hn ⊢
      exact ⟨rfl, ⟨rfl, rfl, rfl, h4.add ho hn, h5.oth (by decide) hn, h6⟩, rfl⟩
    · exact ⟨rfl, ⟨h1, h2, h3, h4, h5, h6⟩, h7⟩
  · have ez : elp A r.toInt.toNat true = zpix false (2 * r.toInt.toNat + A.1.2.2.1 r.toInt.toNat - 1) := rfl
    have en : q.1.2.2.2.2.1 (2 * r.toInt.toNat + A.1.2.2.1 r.toInt.toNat - 1) = A.1.2.2.2.2.1 (elp A r.toInt.toNat true) := (h5 _).1
    simp only [if_true]
    rw [en]
    split
    · rename_i hn
      rw [ez] at hn ⊢
      exact ⟨rfl, ⟨rfl, rfl, rfl, h4.oth (by decide) hn, h5.add ho hn, h6⟩, rfl⟩
    · exact ⟨rfl, ⟨h1, h2, h3, h4, h5, h6⟩, h7⟩
theorem st_entry (H : zEn A q) (a b : Int32) : (opEntry q a b).1 = (mdEntry A a b).1 ∧ zEn (mdEntry A a b).2 (opEntry q a b).2 := by
  obtain ⟨h1, h7⟩ := H
  unfold opEntry mdEntry
  rw [h7]
  split
  · exact ⟨rfl, h1, h7⟩
  split
  · exact ⟨rfl, h1, rfl⟩
  · exact ⟨rfl, h1, h7⟩
theorem st_spell (H : zEn A q) (a b : Int32) : (opSpell q a b).1 = (mdSpell A a b).1 ∧ zEn (mdSpell A a b).2 (opSpell q a b).2 := by
  obtain ⟨h1, h7⟩ := H
  unfold opSpell mdSpell
  rw [h7]
  split
  · exact ⟨rfl, h1, h7⟩
  split
  · exact ⟨rfl, h1, rfl⟩
  · exact ⟨rfl, h1, h7⟩
theorem st_type (H : zEn A q) (a : Bool) (b : Int32) : (opType q a b).1 = (mdType A a b).1 ∧ zEn (mdType A a b).2 (opType q a b).2 := by
  obtain ⟨h1, h7⟩ := H
  unfold opType mdType
  rw [h7]
  split
  · exact ⟨rfl, h1, h7⟩
  split
  · split
    · exact ⟨rfl, h1, rfl⟩
    · exact ⟨rfl, h1, h7⟩
  · split
    · exact ⟨rfl, h1, rfl⟩
    · exact ⟨rfl, h1, h7⟩
theorem st_wipe (H : zEn A q) (a : Bool) : (opWipe q a).1 = (mdWipe A a).1 ∧ zEn (mdWipe A a).2 (opWipe q a).2 := by
  obtain ⟨h1, h7⟩ := H
  unfold opWipe mdWipe
  rw [h7]
  split
  · exact ⟨rfl, h1, rfl⟩
  · exact ⟨rfl, h1, rfl⟩
theorem st_sample (H : zEn A q) : (opSample q).1 = (mdSample A).1 ∧ zEn (mdSample A).2 (opSample q).2 := by
  obtain ⟨h1, h7⟩ := H
  unfold opSample mdSample
  rw [h7]
  split
  · exact ⟨rfl, h1, rfl⟩
  · exact ⟨rfl, h1, h7⟩
theorem st_len (H : zEn A q) (k : Int32) (b : Bool) : (opLen q k b).1 = (mdLen A k b).1 ∧ (opLen q k b).2 = q ∧ (mdLen A k b).2 = A := by
  obtain ⟨h1, h7⟩ := H
  unfold opLen mdLen
  rw [h7]
  split
  · exact ⟨rfl, rfl, rfl⟩
  · exact ⟨rfl, rfl, rfl⟩
theorem st_res (H : zEn A q) (k i : Int32) (b : Bool) : (opRes q k i b).1 = (mdRes A k i b).1 ∧ (opRes q k i b).2 = q ∧ (mdRes A k i b).2 = A := by
  obtain ⟨h1, h7⟩ := H
  unfold opRes mdRes
  rw [h7]
  generalize (if b = true then 6 else 0) = b1
  generalize (if b = true then 7 else 1) = b2
  split
  · split
    · exact ⟨rfl, rfl, rfl⟩
    · exact ⟨rfl, rfl, rfl⟩
  · exact ⟨rfl, rfl, rfl⟩
/-- the reference's answers that have no name of their own yet -/
def mdBelong (A : xMA) : xO × xMA := (rI (bI (belB A.1 A.2.2.1 A.2.2.2.1)), A)
def mdBlame (A : xMA) : xO × xMA := (rI (blaB A.1 A.2.2.1 A.2.2.2.1), A)
def mdCheck (A : xMA) : xO × xMA := (rI (chkB A.1 A.2.2.2.2.1 A.2.2.2.2.1.length 0), A)
def mdFold (A : xMA) (r : List Nat × Bool) : xO × xMA := if r.2 then (.inr eS, A) else (rI (nI r.1.length), (A.1, A.2.1, A.2.2.1, A.2.2.2.1, A.2.2.2.2.1, r.1))
def mdWrite (A : xMA) : xO × xMA := mdFold A (wfold A.1 (post A.1 A.2.2.1 [] false 10 []) [])
def mdAna (A : xMA) : xO × xMA := mdFold A (afold A.1 A.2.1 A.2.2.2.1 (remN A.2.1.length 4) [])
theorem st_belong (H : zEn A q) (hw : A.2.2.1.length ≤ 4) (hu : A.2.2.2.1.length ≤ 5) : (opBelong q).1 = (mdBelong A).1 ∧ zEn (mdBelong A).2 (opBelong q).2 := by
  refine ⟨?_, H⟩
  unfold opBelong mdBelong
  rw [H.2, cmp_bel H.1 hw hu]
theorem st_blame (H : zEn A q) (hr : A.1.2.1.length ≤ 4) (hw : A.2.2.1.length ≤ 4) (hu : A.2.2.2.1.length ≤ 5) : (opBlame q).1 = (mdBlame A).1 ∧ zEn (mdBlame A).2 (opBlame q).2 := by
  refine ⟨?_, H⟩
  unfold opBlame mdBlame
  rw [H.2, culp_bla H.1 hr hw hu]
theorem st_check (H : zEn A q) (hs : ∀ j, (A.2.2.2.2.1.getD j ([], [])).1.length ≤ 4 ∧ (A.2.2.2.2.1.getD j ([], [])).2.length ≤ 5) : (opCheck q).1 = (mdCheck A).1 ∧ zEn (mdCheck A).2 (opCheck q).2 := by
  refine ⟨?_, H⟩
  unfold opCheck mdCheck
  rw [H.2, chk_chkB H.1 hs]
theorem st_write (H : zEn A q) (hw : A.2.2.1.length ≤ 4) : (opWrite q).1 = (mdWrite A).1 ∧ zEn (mdWrite A).2 (opWrite q).2 := by
  obtain ⟨h1, h7⟩ := H
  obtain ⟨e1, e2⟩ := wrt_wfold (u := []) h1 hw
  unfold opWrite mdWrite mdFold
  rw [h7, e1]
  split
  · exact ⟨rfl, h1, h7⟩
  · rename_i hf
    rw [e2 (by rw [e1]; simpa using hf)]
    exact ⟨rfl, h1, rfl⟩
theorem st_ana (H : zEn A q) (hu : A.2.2.2.1.length ≤ 5) : (opAna q).1 = (mdAna A).1 ∧ zEn (mdAna A).2 (opAna q).2 := by
  obtain ⟨h1, h7⟩ := H
  obtain ⟨e1, e2⟩ := ana_afold (es := A.2.1) h1 hu
  unfold opAna ana mdAna mdFold
  rw [h7, e1]
  split
  · exact ⟨rfl, h1, h7⟩
  · rename_i hf
    rw [e2 (by rw [e1]; simpa using hf)]
    exact ⟨rfl, h1, rfl⟩
end STEP
theorem val8_digs : ∀ s t : Nat, t < 8 ^ s → val8 (digs 8 s t) = t
  | 0, t, h => by simp at h; subst h; rfl
  | s + 1, t, h => by
    rw [digs, val8_snoc, val8_digs s (t / 8) (by rw [Nat.pow_succ] at h; omega)]
    omega
theorem VT.vk {k : Nat} (h : VT k) : VK k := by
  obtain ⟨s, t, c, e, h1, h2, h3, h4, h5⟩ := h
  have hl : ∀ n v, ∀ i, (digs 8 n v).getD i 0 < 8 := fun n v i => getD_lt8 (digs_lt (by decide) n v) i
  refine ⟨digs 8 s t, fun j => (digs 8 c e).getD j 0, c, by rw [digs_len]; exact h1, hl s t, h3, fun i _ => hl c e i, ?_⟩
  have := rkey_kk (w := digs 8 s t) (wd := digs 8 c e) (by rw [digs_len]; exact h1) (by rw [digs_len]; exact h3)
  rw [digs_len, digs_len, val8_digs s t h2, val8_digs c e h4] at this
  rw [h5, this]
