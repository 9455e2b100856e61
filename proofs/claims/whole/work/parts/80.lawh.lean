/-! The law's helpers: a call of the class, its answer into out, 1 or 2 where it throws. -/
def Lq (th : xO → Int32) (r : xO × xQ) (h : xH) (x z : Nat) (o : xO) (h' : xH) : Prop := o = rI (th r.1) ∧ PS h' x r.2 ∧ (∀ p : Nat, (p < x ∨ x + 97 ≤ p) → p ≠ z → h'.2 p = h.2 p) ∧ ∃ g, h'.2 z = some (cL 1 g) ∧ ∀ v : Int32, r.1 = rI v → g 0 = v.toInt64
theorem thr1_A : thr1 (.inr eA) = nI 1 := by
  show (if eA = eS then (2 : Int32) else 1) = nI 1
  rw [if_neg (by decide)]
  rfl
theorem thr1_S : thr1 (.inr eS) = nI 2 := by
  show (if eS = eS then (2 : Int32) else 1) = nI 2
  rw [if_pos rfl]
  rfl
theorem thr1_O : thr1 (.inr eO) = nI 1 := by
  show (if eO = eS then (2 : Int32) else 1) = nI 1
  rw [if_neg (by decide)]
  rfl
theorem thr2_S : thr2 (.inr eS) = nI 1 := rfl
theorem sh_pair (q : xQ) (a1 : Int32) (a2 : Int32) : (∃ i : Int32, (opPair q a1 a2).1 = rI i) ∨ (opPair q a1 a2).1 = .inr eA ∨ (opPair q a1 a2).1 = .inr eS := by
  unfold opPair
  generalize (if a1.toInt.toNat = 0 then 2 else 3) = lim
  repeat' split
  all_goals first
    | exact Or.inl ⟨_, rfl⟩
    | exact Or.inr (Or.inl rfl)
    | exact Or.inr (Or.inr rfl)
theorem sh_rule (q : xQ) (a1 : Int32) (a2 : Int32) : (∃ i : Int32, (opRule q a1 a2).1 = rI i) ∨ (opRule q a1 a2).1 = .inr eA ∨ (opRule q a1 a2).1 = .inr eS := by
  unfold opRule
  repeat' split
  all_goals first
    | exact Or.inl ⟨_, rfl⟩
    | exact Or.inr (Or.inl rfl)
    | exact Or.inr (Or.inr rfl)
theorem sh_context (q : xQ) (a1 : Int32) (b2 : Bool) (b3 : Bool) : (∃ i : Int32, (opCtx q a1 b2 b3).1 = rI i) ∨ (opCtx q a1 b2 b3).1 = .inr eA ∨ (opCtx q a1 b2 b3).1 = .inr eS := by
  unfold opCtx
  repeat' split
  all_goals first
    | exact Or.inl ⟨_, rfl⟩
    | exact Or.inr (Or.inl rfl)
    | exact Or.inr (Or.inr rfl)
theorem sh_element (q : xQ) (a1 : Int32) (b2 : Bool) (a3 : Int32) (b4 : Bool) : (∃ i : Int32, (opEl q a1 b2 a3 b4).1 = rI i) ∨ (opEl q a1 b2 a3 b4).1 = .inr eA ∨ (opEl q a1 b2 a3 b4).1 = .inr eS := by
  unfold opEl
  repeat' split
  all_goals first
    | exact Or.inl ⟨_, rfl⟩
    | exact Or.inr (Or.inl rfl)
    | exact Or.inr (Or.inr rfl)
theorem sh_entry (q : xQ) (a1 : Int32) (a2 : Int32) : (∃ i : Int32, (opEntry q a1 a2).1 = rI i) ∨ (opEntry q a1 a2).1 = .inr eA ∨ (opEntry q a1 a2).1 = .inr eS := by
  unfold opEntry
  repeat' split
  all_goals first
    | exact Or.inl ⟨_, rfl⟩
    | exact Or.inr (Or.inl rfl)
    | exact Or.inr (Or.inr rfl)
theorem sh_spell (q : xQ) (a1 : Int32) (a2 : Int32) : (∃ i : Int32, (opSpell q a1 a2).1 = rI i) ∨ (opSpell q a1 a2).1 = .inr eA ∨ (opSpell q a1 a2).1 = .inr eS := by
  unfold opSpell
  repeat' split
  all_goals first
    | exact Or.inl ⟨_, rfl⟩
    | exact Or.inr (Or.inl rfl)
    | exact Or.inr (Or.inr rfl)
theorem sh_type (q : xQ) (b1 : Bool) (a2 : Int32) : (∃ i : Int32, (opType q b1 a2).1 = rI i) ∨ (opType q b1 a2).1 = .inr eA ∨ (opType q b1 a2).1 = .inr eS := by
  unfold opType
  repeat' split
  all_goals first
    | exact Or.inl ⟨_, rfl⟩
    | exact Or.inr (Or.inl rfl)
    | exact Or.inr (Or.inr rfl)
theorem sh_write (q : xQ) : (∃ i : Int32, (opWrite q).1 = rI i) ∨ (opWrite q).1 = .inr eS := by
  unfold opWrite
  repeat' split
  all_goals first
    | exact Or.inl ⟨_, rfl⟩
    | exact Or.inr rfl
theorem sh_analyse (q : xQ) : (∃ i : Int32, (opAna q).1 = rI i) ∨ (opAna q).1 = .inr eS := by
  unfold opAna
  repeat' split
  all_goals first
    | exact Or.inl ⟨_, rfl⟩
    | exact Or.inr rfl
theorem sh_length (q : xQ) (a1 : Int32) (b2 : Bool) : (∃ i : Int32, (opLen q a1 b2).1 = rI i) ∨ (opLen q a1 b2).1 = .inr eO := by
  unfold opLen
  repeat' split
  all_goals first
    | exact Or.inl ⟨_, rfl⟩
    | exact Or.inr rfl
theorem sh_result (q : xQ) (a1 : Int32) (a2 : Int32) (b3 : Bool) : (∃ i : Int32, (opRes q a1 a2 b3).1 = rI i) ∨ (opRes q a1 a2 b3).1 = .inr eO := by
  unfold opRes
  repeat' split
  all_goals first
    | exact Or.inl ⟨_, rfl⟩
    | exact Or.inr rfl
theorem sh_sample (q : xQ) : (∃ i : Int32, (opSample q).1 = rI i) ∨ (opSample q).1 = .inr eS := by
  unfold opSample
  repeat' split
  all_goals first
    | exact Or.inl ⟨_, rfl⟩
    | exact Or.inr rfl
section LAWH
variable {l : Launch} {G : xG} {d : Nat} {h : xH} {x z : Nat} {q : xQ}
theorem c_Law_pair {a1 : Int32} {a2 : Int32} (H : PS h x q) (hz : x + 97 ≤ z) (hzz : ∃ f, h.2 z = some (cL 1 f)) : xMet l G mLaw_pair (d + 5) 1 6 [.ref x, .int a1, .int a2, .ref z] h (Lq thr1 (opPair q a1 a2) h x z) := by
  have hx := H.1
  obtain ⟨f, hf⟩ := hzz
  refine xMet_of (L := [_, _, _, _, _]) (by decide) (Nat.le_of_ble_eq_true rfl) rfl ?_
  refine ex_aload_n dLaw_pair_0 rfl ?_
  refine ex_iconst (v := nI 0) dLaw_pair_1 (by decide) ?_
  refine ex_aload_n dLaw_pair_2 rfl ?_
  refine ex_iload_n dLaw_pair_3 rfl ?_
  refine ex_iload_n dLaw_pair_4 rfl ?_
  have hs := sh_pair q a1 a2
  refine ex_call dLaw_pair_5 (go_v (As := [.int a1, .int a2]) (rest := [.int (nI 0), .ref z]) dLaw_pair_5 iv_Law_7 cd_PW_pair ar_PW_pair hx rfl) cd_PW_pair (c_PW_pair (d := d) H) (by dsimp only; omega) (Nat.le_of_ble_eq_true rfl) (Nat.le_refl _) (Nat.le_refl _) (fun v h1 hq => ?_) (fun E h1 hq => ?_)
  · obtain ⟨e, hp, hfr⟩ := hq
    have hfz : h1.2 z = some (cL 1 f) := (hfr z (Or.inr hz)).trans hf
    obtain ⟨i, hi⟩ : ∃ i : Int32, (opPair q a1 a2).1 = rI i := by
      rcases hs with h9 | h9
      · exact h9
      · rw [← e] at h9; rcases h9 with h9 | h9 <;> exact absurd h9 (by simp)
    rw [hi] at e
    cases e
    refine ex_i2l dLaw_pair_8 ?_
    refine ex_lastore dLaw_pair_9 hfz rfl (by decide) (by decide) ?_
    refine ex_goto (tgt := 21) dLaw_pair_10 (by decide) ?_
    refine ex_iconst (v := nI 0) dLaw_pair_21 (by decide) ?_
    refine ex_iret dLaw_pair_22 rfl (Nat.le_refl _) (Nat.le_refl _) ⟨by rw [hi]; rfl, hp.fe (fun p h2 h3 => xup_ne _ _ (by omega)), fun p h2 h3 => (xup_ne _ _ h3).trans (hfr p h2), _, xup_self _ _ _, fun v9 e9 => ?_⟩
    rw [hi] at e9
    cases e9
    simp [vp_updL]
  · obtain ⟨e, hp, hfr⟩ := hq
    have hfz : h1.2 z = some (cL 1 f) := (hfr z (Or.inr hz)).trans hf
    have hE : E = eA ∨ E = eS := by
      rcases hs with ⟨i, h9⟩ | h9 | h9
      · rw [← e] at h9; exact absurd h9 (by simp)
      · rw [← e] at h9; exact Or.inl (Sum.inr.inj h9)
      · rw [← e] at h9; exact Or.inr (Sum.inr.inj h9)
    rcases hE with rfl | rfl
    · refine ex_catch1 rfl ⟨by decide, by decide⟩ (by decide) cl_Law_13 ca_IllegalArgumentException (fun a9 => ?_)
      refine ex_astore (L' := [_, _, _, _, _]) dLaw_pair_13 (by decide) rfl ?_
      refine ex_iconst (v := nI 1) dLaw_pair_15 (by decide) ?_
      exact ex_iret dLaw_pair_16 rfl (Nat.le_refl _) (Nat.le_refl _) ⟨by rw [← e, thr1_A], hp, fun p h2 _ => hfr p h2, f, hfz, fun v9 e9 => by rw [← e] at e9; exact absurd e9 (by simp)⟩
    · refine ex_catch2 rfl ⟨by decide, by decide⟩ (by decide) cl_Law_13 ⟨rfl, rfl⟩ ⟨by decide, by decide⟩ (by decide) cl_Law_15 ca_IllegalStateException (fun a9 => ?_)
      refine ex_astore (L' := [_, _, _, _, _]) dLaw_pair_17 (by decide) rfl ?_
      refine ex_iconst (v := nI 2) dLaw_pair_19 (by decide) ?_
      exact ex_iret dLaw_pair_20 rfl (Nat.le_refl _) (Nat.le_refl _) ⟨by rw [← e, thr1_S], hp, fun p h2 _ => hfr p h2, f, hfz, fun v9 e9 => by rw [← e] at e9; exact absurd e9 (by simp)⟩
theorem c_Law_rule {a1 : Int32} {a2 : Int32} (H : PS h x q) (hz : x + 97 ≤ z) (hzz : ∃ f, h.2 z = some (cL 1 f)) : xMet l G mLaw_rule (d + 5) 1 6 [.ref x, .int a1, .int a2, .ref z] h (Lq thr1 (opRule q a1 a2) h x z) := by
  have hx := H.1
  obtain ⟨f, hf⟩ := hzz
  refine xMet_of (L := [_, _, _, _, _]) (by decide) (Nat.le_of_ble_eq_true rfl) rfl ?_
  refine ex_aload_n dLaw_rule_0 rfl ?_
  refine ex_iconst (v := nI 0) dLaw_rule_1 (by decide) ?_
  refine ex_aload_n dLaw_rule_2 rfl ?_
  refine ex_iload_n dLaw_rule_3 rfl ?_
  refine ex_iload_n dLaw_rule_4 rfl ?_
  have hs := sh_rule q a1 a2
  refine ex_call dLaw_rule_5 (go_v (As := [.int a1, .int a2]) (rest := [.int (nI 0), .ref z]) dLaw_rule_5 iv_Law_17 cd_PW_rule ar_PW_rule hx rfl) cd_PW_rule (c_PW_rule (d := d) H) (by dsimp only; omega) (Nat.le_of_ble_eq_true rfl) (Nat.le_refl _) (Nat.le_refl _) (fun v h1 hq => ?_) (fun E h1 hq => ?_)
  · obtain ⟨e, hp, hfr⟩ := hq
    have hfz : h1.2 z = some (cL 1 f) := (hfr z (Or.inr hz)).trans hf
    obtain ⟨i, hi⟩ : ∃ i : Int32, (opRule q a1 a2).1 = rI i := by
      rcases hs with h9 | h9
      · exact h9
      · rw [← e] at h9; rcases h9 with h9 | h9 <;> exact absurd h9 (by simp)
    rw [hi] at e
    cases e
    refine ex_i2l dLaw_rule_8 ?_
    refine ex_lastore dLaw_rule_9 hfz rfl (by decide) (by decide) ?_
    refine ex_goto (tgt := 21) dLaw_rule_10 (by decide) ?_
    refine ex_iconst (v := nI 0) dLaw_rule_21 (by decide) ?_
    refine ex_iret dLaw_rule_22 rfl (Nat.le_refl _) (Nat.le_refl _) ⟨by rw [hi]; rfl, hp.fe (fun p h2 h3 => xup_ne _ _ (by omega)), fun p h2 h3 => (xup_ne _ _ h3).trans (hfr p h2), _, xup_self _ _ _, fun v9 e9 => ?_⟩
    rw [hi] at e9
    cases e9
    simp [vp_updL]
  · obtain ⟨e, hp, hfr⟩ := hq
    have hfz : h1.2 z = some (cL 1 f) := (hfr z (Or.inr hz)).trans hf
    have hE : E = eA ∨ E = eS := by
      rcases hs with ⟨i, h9⟩ | h9 | h9
      · rw [← e] at h9; exact absurd h9 (by simp)
      · rw [← e] at h9; exact Or.inl (Sum.inr.inj h9)
      · rw [← e] at h9; exact Or.inr (Sum.inr.inj h9)
    rcases hE with rfl | rfl
    · refine ex_catch1 rfl ⟨by decide, by decide⟩ (by decide) cl_Law_13 ca_IllegalArgumentException (fun a9 => ?_)
      refine ex_astore (L' := [_, _, _, _, _]) dLaw_rule_13 (by decide) rfl ?_
      refine ex_iconst (v := nI 1) dLaw_rule_15 (by decide) ?_
      exact ex_iret dLaw_rule_16 rfl (Nat.le_refl _) (Nat.le_refl _) ⟨by rw [← e, thr1_A], hp, fun p h2 _ => hfr p h2, f, hfz, fun v9 e9 => by rw [← e] at e9; exact absurd e9 (by simp)⟩
    · refine ex_catch2 rfl ⟨by decide, by decide⟩ (by decide) cl_Law_13 ⟨rfl, rfl⟩ ⟨by decide, by decide⟩ (by decide) cl_Law_15 ca_IllegalStateException (fun a9 => ?_)
      refine ex_astore (L' := [_, _, _, _, _]) dLaw_rule_17 (by decide) rfl ?_
      refine ex_iconst (v := nI 2) dLaw_rule_19 (by decide) ?_
      exact ex_iret dLaw_rule_20 rfl (Nat.le_refl _) (Nat.le_refl _) ⟨by rw [← e, thr1_S], hp, fun p h2 _ => hfr p h2, f, hfz, fun v9 e9 => by rw [← e] at e9; exact absurd e9 (by simp)⟩
theorem c_Law_context {a1 : Int32} {b2 : Bool} {b3 : Bool} (H : PS h x q) (hz : x + 97 ≤ z) (hzz : ∃ f, h.2 z = some (cL 1 f)) : xMet l G mLaw_context (d + 5) 1 6 [.ref x, .int a1, .int (bI b2), .int (bI b3), .ref z] h (Lq thr1 (opCtx q a1 b2 b3) h x z) := by
  have hx := H.1
  obtain ⟨f, hf⟩ := hzz
  refine xMet_of (L := [_, _, _, _, _, _]) (by decide) (Nat.le_of_ble_eq_true rfl) rfl ?_
  refine ex_aload dLaw_context_0 rfl ?_
  refine ex_iconst (v := nI 0) dLaw_context_2 (by decide) ?_
  refine ex_aload_n dLaw_context_3 rfl ?_
  refine ex_iload_n dLaw_context_4 rfl ?_
  refine ex_iload_n dLaw_context_5 rfl ?_
  refine ex_iload_n dLaw_context_6 rfl ?_
  have hs := sh_context q a1 b2 b3
  refine ex_call dLaw_context_7 (go_v (As := [.int a1, .int (bI b2), .int (bI b3)]) (rest := [.int (nI 0), .ref z]) dLaw_context_7 iv_Law_20 cd_PW_context ar_PW_context hx rfl) cd_PW_context (c_PW_context (d := d) H) (by dsimp only; omega) (Nat.le_of_ble_eq_true rfl) (Nat.le_refl _) (Nat.le_refl _) (fun v h1 hq => ?_) (fun E h1 hq => ?_)
  · obtain ⟨e, hp, hfr⟩ := hq
    have hfz : h1.2 z = some (cL 1 f) := (hfr z (Or.inr hz)).trans hf
    obtain ⟨i, hi⟩ : ∃ i : Int32, (opCtx q a1 b2 b3).1 = rI i := by
      rcases hs with h9 | h9
      · exact h9
      · rw [← e] at h9; rcases h9 with h9 | h9 <;> exact absurd h9 (by simp)
    rw [hi] at e
    cases e
    refine ex_i2l dLaw_context_10 ?_
    refine ex_lastore dLaw_context_11 hfz rfl (by decide) (by decide) ?_
    refine ex_goto (tgt := 23) dLaw_context_12 (by decide) ?_
    refine ex_iconst (v := nI 0) dLaw_context_23 (by decide) ?_
    refine ex_iret dLaw_context_24 rfl (Nat.le_refl _) (Nat.le_refl _) ⟨by rw [hi]; rfl, hp.fe (fun p h2 h3 => xup_ne _ _ (by omega)), fun p h2 h3 => (xup_ne _ _ h3).trans (hfr p h2), _, xup_self _ _ _, fun v9 e9 => ?_⟩
    rw [hi] at e9
    cases e9
    simp [vp_updL]
  · obtain ⟨e, hp, hfr⟩ := hq
    have hfz : h1.2 z = some (cL 1 f) := (hfr z (Or.inr hz)).trans hf
    have hE : E = eA ∨ E = eS := by
      rcases hs with ⟨i, h9⟩ | h9 | h9
      · rw [← e] at h9; exact absurd h9 (by simp)
      · rw [← e] at h9; exact Or.inl (Sum.inr.inj h9)
      · rw [← e] at h9; exact Or.inr (Sum.inr.inj h9)
    rcases hE with rfl | rfl
    · refine ex_catch1 rfl ⟨by decide, by decide⟩ (by decide) cl_Law_13 ca_IllegalArgumentException (fun a9 => ?_)
      refine ex_astore (L' := [_, _, _, _, _, _]) dLaw_context_15 (by decide) rfl ?_
      refine ex_iconst (v := nI 1) dLaw_context_17 (by decide) ?_
      exact ex_iret dLaw_context_18 rfl (Nat.le_refl _) (Nat.le_refl _) ⟨by rw [← e, thr1_A], hp, fun p h2 _ => hfr p h2, f, hfz, fun v9 e9 => by rw [← e] at e9; exact absurd e9 (by simp)⟩
    · refine ex_catch2 rfl ⟨by decide, by decide⟩ (by decide) cl_Law_13 ⟨rfl, rfl⟩ ⟨by decide, by decide⟩ (by decide) cl_Law_15 ca_IllegalStateException (fun a9 => ?_)
      refine ex_astore (L' := [_, _, _, _, _, _]) dLaw_context_19 (by decide) rfl ?_
      refine ex_iconst (v := nI 2) dLaw_context_21 (by decide) ?_
      exact ex_iret dLaw_context_22 rfl (Nat.le_refl _) (Nat.le_refl _) ⟨by rw [← e, thr1_S], hp, fun p h2 _ => hfr p h2, f, hfz, fun v9 e9 => by rw [← e] at e9; exact absurd e9 (by simp)⟩
theorem c_Law_element {a1 : Int32} {b2 : Bool} {a3 : Int32} {b4 : Bool} (H : PS h x q) (hz : x + 97 ≤ z) (hzz : ∃ f, h.2 z = some (cL 1 f)) : xMet l G mLaw_element (d + 5) 1 6 [.ref x, .int a1, .int (bI b2), .int a3, .int (bI b4), .ref z] h (Lq thr1 (opEl q a1 b2 a3 b4) h x z) := by
  have hx := H.1
  obtain ⟨f, hf⟩ := hzz
  refine xMet_of (L := [_, _, _, _, _, _, _]) (by decide) (Nat.le_of_ble_eq_true rfl) rfl ?_
  refine ex_aload dLaw_element_0 rfl ?_
  refine ex_iconst (v := nI 0) dLaw_element_2 (by decide) ?_
  refine ex_aload_n dLaw_element_3 rfl ?_
  refine ex_iload_n dLaw_element_4 rfl ?_
  refine ex_iload_n dLaw_element_5 rfl ?_
  refine ex_iload_n dLaw_element_6 rfl ?_
  refine ex_iload dLaw_element_7 rfl ?_
  have hs := sh_element q a1 b2 a3 b4
  refine ex_call dLaw_element_9 (go_v (As := [.int a1, .int (bI b2), .int a3, .int (bI b4)]) (rest := [.int (nI 0), .ref z]) dLaw_element_9 iv_Law_24 cd_PW_element ar_PW_element hx rfl) cd_PW_element (c_PW_element (d := d) H) (by dsimp only; omega) (Nat.le_of_ble_eq_true rfl) (Nat.le_refl _) (Nat.le_refl _) (fun v h1 hq => ?_) (fun E h1 hq => ?_)
  · obtain ⟨e, hp, hfr⟩ := hq
    have hfz : h1.2 z = some (cL 1 f) := (hfr z (Or.inr hz)).trans hf
    obtain ⟨i, hi⟩ : ∃ i : Int32, (opEl q a1 b2 a3 b4).1 = rI i := by
      rcases hs with h9 | h9
      · exact h9
      · rw [← e] at h9; rcases h9 with h9 | h9 <;> exact absurd h9 (by simp)
    rw [hi] at e
    cases e
    refine ex_i2l dLaw_element_12 ?_
    refine ex_lastore dLaw_element_13 hfz rfl (by decide) (by decide) ?_
    refine ex_goto (tgt := 25) dLaw_element_14 (by decide) ?_
    refine ex_iconst (v := nI 0) dLaw_element_25 (by decide) ?_
    refine ex_iret dLaw_element_26 rfl (Nat.le_refl _) (Nat.le_refl _) ⟨by rw [hi]; rfl, hp.fe (fun p h2 h3 => xup_ne _ _ (by omega)), fun p h2 h3 => (xup_ne _ _ h3).trans (hfr p h2), _, xup_self _ _ _, fun v9 e9 => ?_⟩
    rw [hi] at e9
    cases e9
    simp [vp_updL]
  · obtain ⟨e, hp, hfr⟩ := hq
    have hfz : h1.2 z = some (cL 1 f) := (hfr z (Or.inr hz)).trans hf
    have hE : E = eA ∨ E = eS := by
      rcases hs with ⟨i, h9⟩ | h9 | h9
      · rw [← e] at h9; exact absurd h9 (by simp)
      · rw [← e] at h9; exact Or.inl (Sum.inr.inj h9)
      · rw [← e] at h9; exact Or.inr (Sum.inr.inj h9)
    rcases hE with rfl | rfl
    · refine ex_catch1 rfl ⟨by decide, by decide⟩ (by decide) cl_Law_13 ca_IllegalArgumentException (fun a9 => ?_)
      refine ex_astore (L' := [_, _, _, _, _, _, _]) dLaw_element_17 (by decide) rfl ?_
      refine ex_iconst (v := nI 1) dLaw_element_19 (by decide) ?_
      exact ex_iret dLaw_element_20 rfl (Nat.le_refl _) (Nat.le_refl _) ⟨by rw [← e, thr1_A], hp, fun p h2 _ => hfr p h2, f, hfz, fun v9 e9 => by rw [← e] at e9; exact absurd e9 (by simp)⟩
    · refine ex_catch2 rfl ⟨by decide, by decide⟩ (by decide) cl_Law_13 ⟨rfl, rfl⟩ ⟨by decide, by decide⟩ (by decide) cl_Law_15 ca_IllegalStateException (fun a9 => ?_)
      refine ex_astore (L' := [_, _, _, _, _, _, _]) dLaw_element_21 (by decide) rfl ?_
      refine ex_iconst (v := nI 2) dLaw_element_23 (by decide) ?_
      exact ex_iret dLaw_element_24 rfl (Nat.le_refl _) (Nat.le_refl _) ⟨by rw [← e, thr1_S], hp, fun p h2 _ => hfr p h2, f, hfz, fun v9 e9 => by rw [← e] at e9; exact absurd e9 (by simp)⟩
theorem c_Law_entry {a1 : Int32} {a2 : Int32} (H : PS h x q) (hz : x + 97 ≤ z) (hzz : ∃ f, h.2 z = some (cL 1 f)) : xMet l G mLaw_entry (d + 5) 1 6 [.ref x, .int a1, .int a2, .ref z] h (Lq thr1 (opEntry q a1 a2) h x z) := by
  have hx := H.1
  obtain ⟨f, hf⟩ := hzz
  refine xMet_of (L := [_, _, _, _, _]) (by decide) (Nat.le_of_ble_eq_true rfl) rfl ?_
  refine ex_aload_n dLaw_entry_0 rfl ?_
  refine ex_iconst (v := nI 0) dLaw_entry_1 (by decide) ?_
  refine ex_aload_n dLaw_entry_2 rfl ?_
  refine ex_iload_n dLaw_entry_3 rfl ?_
  refine ex_iload_n dLaw_entry_4 rfl ?_
  have hs := sh_entry q a1 a2
  refine ex_call dLaw_entry_5 (go_v (As := [.int a1, .int a2]) (rest := [.int (nI 0), .ref z]) dLaw_entry_5 iv_Law_28 cd_PW_entry ar_PW_entry hx rfl) cd_PW_entry (c_PW_entry (d := d) H) (by dsimp only; omega) (Nat.le_of_ble_eq_true rfl) (Nat.le_refl _) (Nat.le_refl _) (fun v h1 hq => ?_) (fun E h1 hq => ?_)
  · obtain ⟨e, hp, hfr⟩ := hq
    have hfz : h1.2 z = some (cL 1 f) := (hfr z (Or.inr hz)).trans hf
    obtain ⟨i, hi⟩ : ∃ i : Int32, (opEntry q a1 a2).1 = rI i := by
      rcases hs with h9 | h9
      · exact h9
      · rw [← e] at h9; rcases h9 with h9 | h9 <;> exact absurd h9 (by simp)
    rw [hi] at e
    cases e
    refine ex_i2l dLaw_entry_8 ?_
    refine ex_lastore dLaw_entry_9 hfz rfl (by decide) (by decide) ?_
    refine ex_goto (tgt := 21) dLaw_entry_10 (by decide) ?_
    refine ex_iconst (v := nI 0) dLaw_entry_21 (by decide) ?_
    refine ex_iret dLaw_entry_22 rfl (Nat.le_refl _) (Nat.le_refl _) ⟨by rw [hi]; rfl, hp.fe (fun p h2 h3 => xup_ne _ _ (by omega)), fun p h2 h3 => (xup_ne _ _ h3).trans (hfr p h2), _, xup_self _ _ _, fun v9 e9 => ?_⟩
    rw [hi] at e9
    cases e9
    simp [vp_updL]
  · obtain ⟨e, hp, hfr⟩ := hq
    have hfz : h1.2 z = some (cL 1 f) := (hfr z (Or.inr hz)).trans hf
    have hE : E = eA ∨ E = eS := by
      rcases hs with ⟨i, h9⟩ | h9 | h9
      · rw [← e] at h9; exact absurd h9 (by simp)
      · rw [← e] at h9; exact Or.inl (Sum.inr.inj h9)
      · rw [← e] at h9; exact Or.inr (Sum.inr.inj h9)
    rcases hE with rfl | rfl
    · refine ex_catch1 rfl ⟨by decide, by decide⟩ (by decide) cl_Law_13 ca_IllegalArgumentException (fun a9 => ?_)
      refine ex_astore (L' := [_, _, _, _, _]) dLaw_entry_13 (by decide) rfl ?_
      refine ex_iconst (v := nI 1) dLaw_entry_15 (by decide) ?_
      exact ex_iret dLaw_entry_16 rfl (Nat.le_refl _) (Nat.le_refl _) ⟨by rw [← e, thr1_A], hp, fun p h2 _ => hfr p h2, f, hfz, fun v9 e9 => by rw [← e] at e9; exact absurd e9 (by simp)⟩
    · refine ex_catch2 rfl ⟨by decide, by decide⟩ (by decide) cl_Law_13 ⟨rfl, rfl⟩ ⟨by decide, by decide⟩ (by decide) cl_Law_15 ca_IllegalStateException (fun a9 => ?_)
      refine ex_astore (L' := [_, _, _, _, _]) dLaw_entry_17 (by decide) rfl ?_
      refine ex_iconst (v := nI 2) dLaw_entry_19 (by decide) ?_
      exact ex_iret dLaw_entry_20 rfl (Nat.le_refl _) (Nat.le_refl _) ⟨by rw [← e, thr1_S], hp, fun p h2 _ => hfr p h2, f, hfz, fun v9 e9 => by rw [← e] at e9; exact absurd e9 (by simp)⟩
theorem c_Law_spell {a1 : Int32} {a2 : Int32} (H : PS h x q) (hz : x + 97 ≤ z) (hzz : ∃ f, h.2 z = some (cL 1 f)) : xMet l G mLaw_spell (d + 5) 1 6 [.ref x, .int a1, .int a2, .ref z] h (Lq thr1 (opSpell q a1 a2) h x z) := by
  have hx := H.1
  obtain ⟨f, hf⟩ := hzz
  refine xMet_of (L := [_, _, _, _, _]) (by decide) (Nat.le_of_ble_eq_true rfl) rfl ?_
  refine ex_aload_n dLaw_spell_0 rfl ?_
  refine ex_iconst (v := nI 0) dLaw_spell_1 (by decide) ?_
  refine ex_aload_n dLaw_spell_2 rfl ?_
  refine ex_iload_n dLaw_spell_3 rfl ?_
  refine ex_iload_n dLaw_spell_4 rfl ?_
  have hs := sh_spell q a1 a2
  refine ex_call dLaw_spell_5 (go_v (As := [.int a1, .int a2]) (rest := [.int (nI 0), .ref z]) dLaw_spell_5 iv_Law_31 cd_PW_spell ar_PW_spell hx rfl) cd_PW_spell (c_PW_spell (d := d) H) (by dsimp only; omega) (Nat.le_of_ble_eq_true rfl) (Nat.le_refl _) (Nat.le_refl _) (fun v h1 hq => ?_) (fun E h1 hq => ?_)
  · obtain ⟨e, hp, hfr⟩ := hq
    have hfz : h1.2 z = some (cL 1 f) := (hfr z (Or.inr hz)).trans hf
    obtain ⟨i, hi⟩ : ∃ i : Int32, (opSpell q a1 a2).1 = rI i := by
      rcases hs with h9 | h9
      · exact h9
      · rw [← e] at h9; rcases h9 with h9 | h9 <;> exact absurd h9 (by simp)
    rw [hi] at e
    cases e
    refine ex_i2l dLaw_spell_8 ?_
    refine ex_lastore dLaw_spell_9 hfz rfl (by decide) (by decide) ?_
    refine ex_goto (tgt := 21) dLaw_spell_10 (by decide) ?_
    refine ex_iconst (v := nI 0) dLaw_spell_21 (by decide) ?_
    refine ex_iret dLaw_spell_22 rfl (Nat.le_refl _) (Nat.le_refl _) ⟨by rw [hi]; rfl, hp.fe (fun p h2 h3 => xup_ne _ _ (by omega)), fun p h2 h3 => (xup_ne _ _ h3).trans (hfr p h2), _, xup_self _ _ _, fun v9 e9 => ?_⟩
    rw [hi] at e9
    cases e9
    simp [vp_updL]
  · obtain ⟨e, hp, hfr⟩ := hq
    have hfz : h1.2 z = some (cL 1 f) := (hfr z (Or.inr hz)).trans hf
    have hE : E = eA ∨ E = eS := by
      rcases hs with ⟨i, h9⟩ | h9 | h9
      · rw [← e] at h9; exact absurd h9 (by simp)
      · rw [← e] at h9; exact Or.inl (Sum.inr.inj h9)
      · rw [← e] at h9; exact Or.inr (Sum.inr.inj h9)
    rcases hE with rfl | rfl
    · refine ex_catch1 rfl ⟨by decide, by decide⟩ (by decide) cl_Law_13 ca_IllegalArgumentException (fun a9 => ?_)
      refine ex_astore (L' := [_, _, _, _, _]) dLaw_spell_13 (by decide) rfl ?_
      refine ex_iconst (v := nI 1) dLaw_spell_15 (by decide) ?_
      exact ex_iret dLaw_spell_16 rfl (Nat.le_refl _) (Nat.le_refl _) ⟨by rw [← e, thr1_A], hp, fun p h2 _ => hfr p h2, f, hfz, fun v9 e9 => by rw [← e] at e9; exact absurd e9 (by simp)⟩
    · refine ex_catch2 rfl ⟨by decide, by decide⟩ (by decide) cl_Law_13 ⟨rfl, rfl⟩ ⟨by decide, by decide⟩ (by decide) cl_Law_15 ca_IllegalStateException (fun a9 => ?_)
      refine ex_astore (L' := [_, _, _, _, _]) dLaw_spell_17 (by decide) rfl ?_
      refine ex_iconst (v := nI 2) dLaw_spell_19 (by decide) ?_
      exact ex_iret dLaw_spell_20 rfl (Nat.le_refl _) (Nat.le_refl _) ⟨by rw [← e, thr1_S], hp, fun p h2 _ => hfr p h2, f, hfz, fun v9 e9 => by rw [← e] at e9; exact absurd e9 (by simp)⟩
theorem c_Law_type {b1 : Bool} {a2 : Int32} (H : PS h x q) (hz : x + 97 ≤ z) (hzz : ∃ f, h.2 z = some (cL 1 f)) : xMet l G mLaw_type (d + 5) 1 6 [.ref x, .int (bI b1), .int a2, .ref z] h (Lq thr1 (opType q b1 a2) h x z) := by
  have hx := H.1
  obtain ⟨f, hf⟩ := hzz
  refine xMet_of (L := [_, _, _, _, _]) (by decide) (Nat.le_of_ble_eq_true rfl) rfl ?_
  refine ex_aload_n dLaw_type_0 rfl ?_
  refine ex_iconst (v := nI 0) dLaw_type_1 (by decide) ?_
  refine ex_aload_n dLaw_type_2 rfl ?_
  refine ex_iload_n dLaw_type_3 rfl ?_
  refine ex_iload_n dLaw_type_4 rfl ?_
  have hs := sh_type q b1 a2
  refine ex_call dLaw_type_5 (go_v (As := [.int (bI b1), .int a2]) (rest := [.int (nI 0), .ref z]) dLaw_type_5 iv_Law_34 cd_PW_type ar_PW_type hx rfl) cd_PW_type (c_PW_type (d := d) H) (by dsimp only; omega) (Nat.le_of_ble_eq_true rfl) (Nat.le_refl _) (Nat.le_refl _) (fun v h1 hq => ?_) (fun E h1 hq => ?_)
  · obtain ⟨e, hp, hfr⟩ := hq
    have hfz : h1.2 z = some (cL 1 f) := (hfr z (Or.inr hz)).trans hf
    obtain ⟨i, hi⟩ : ∃ i : Int32, (opType q b1 a2).1 = rI i := by
      rcases hs with h9 | h9
      · exact h9
      · rw [← e] at h9; rcases h9 with h9 | h9 <;> exact absurd h9 (by simp)
    rw [hi] at e
    cases e
    refine ex_i2l dLaw_type_8 ?_
    refine ex_lastore dLaw_type_9 hfz rfl (by decide) (by decide) ?_
    refine ex_goto (tgt := 21) dLaw_type_10 (by decide) ?_
    refine ex_iconst (v := nI 0) dLaw_type_21 (by decide) ?_
    refine ex_iret dLaw_type_22 rfl (Nat.le_refl _) (Nat.le_refl _) ⟨by rw [hi]; rfl, hp.fe (fun p h2 h3 => xup_ne _ _ (by omega)), fun p h2 h3 => (xup_ne _ _ h3).trans (hfr p h2), _, xup_self _ _ _, fun v9 e9 => ?_⟩
    rw [hi] at e9
    cases e9
    simp [vp_updL]
  · obtain ⟨e, hp, hfr⟩ := hq
    have hfz : h1.2 z = some (cL 1 f) := (hfr z (Or.inr hz)).trans hf
    have hE : E = eA ∨ E = eS := by
      rcases hs with ⟨i, h9⟩ | h9 | h9
      · rw [← e] at h9; exact absurd h9 (by simp)
      · rw [← e] at h9; exact Or.inl (Sum.inr.inj h9)
      · rw [← e] at h9; exact Or.inr (Sum.inr.inj h9)
    rcases hE with rfl | rfl
    · refine ex_catch1 rfl ⟨by decide, by decide⟩ (by decide) cl_Law_13 ca_IllegalArgumentException (fun a9 => ?_)
      refine ex_astore (L' := [_, _, _, _, _]) dLaw_type_13 (by decide) rfl ?_
      refine ex_iconst (v := nI 1) dLaw_type_15 (by decide) ?_
      exact ex_iret dLaw_type_16 rfl (Nat.le_refl _) (Nat.le_refl _) ⟨by rw [← e, thr1_A], hp, fun p h2 _ => hfr p h2, f, hfz, fun v9 e9 => by rw [← e] at e9; exact absurd e9 (by simp)⟩
    · refine ex_catch2 rfl ⟨by decide, by decide⟩ (by decide) cl_Law_13 ⟨rfl, rfl⟩ ⟨by decide, by decide⟩ (by decide) cl_Law_15 ca_IllegalStateException (fun a9 => ?_)
      refine ex_astore (L' := [_, _, _, _, _]) dLaw_type_17 (by decide) rfl ?_
      refine ex_iconst (v := nI 2) dLaw_type_19 (by decide) ?_
      exact ex_iret dLaw_type_20 rfl (Nat.le_refl _) (Nat.le_refl _) ⟨by rw [← e, thr1_S], hp, fun p h2 _ => hfr p h2, f, hfz, fun v9 e9 => by rw [← e] at e9; exact absurd e9 (by simp)⟩
theorem c_Law_write (H : PS h x q) (hz : x + 97 ≤ z) (hzz : ∃ f, h.2 z = some (cL 1 f)) : xMet l G mLaw_write (d + 25) 1 6 [.ref x, .ref z] h (Lq thr2 (opWrite q) h x z) := by
  have hx := H.1
  obtain ⟨f, hf⟩ := hzz
  refine xMet_of (L := [_, _, _]) (by decide) (Nat.le_of_ble_eq_true rfl) rfl ?_
  refine ex_aload_n dLaw_write_0 rfl ?_
  refine ex_iconst (v := nI 0) dLaw_write_1 (by decide) ?_
  refine ex_aload_n dLaw_write_2 rfl ?_
  have hs := sh_write q
  refine ex_call dLaw_write_3 (go_v (As := []) (rest := [.int (nI 0), .ref z]) dLaw_write_3 iv_Law_38 cd_PW_write ar_PW_write hx rfl) cd_PW_write (c_PW_write (d := d) H) (by dsimp only; omega) (Nat.le_of_ble_eq_true rfl) (Nat.le_refl _) (Nat.le_refl _) (fun v h1 hq => ?_) (fun E h1 hq => ?_)
  · obtain ⟨e, hp, hfr⟩ := hq
    have hfz : h1.2 z = some (cL 1 f) := (hfr z (Or.inr hz)).trans hf
    obtain ⟨i, hi⟩ : ∃ i : Int32, (opWrite q).1 = rI i := by
      rcases hs with h9 | h9
      · exact h9
      · rw [← e] at h9; exact absurd h9 (by simp)
    rw [hi] at e
    cases e
    refine ex_i2l dLaw_write_6 ?_
    refine ex_lastore dLaw_write_7 hfz rfl (by decide) (by decide) ?_
    refine ex_goto (tgt := 14) dLaw_write_8 (by decide) ?_
    refine ex_iconst (v := nI 0) dLaw_write_14 (by decide) ?_
    refine ex_iret dLaw_write_15 rfl (Nat.le_refl _) (Nat.le_refl _) ⟨by rw [hi]; rfl, hp.fe (fun p h2 h3 => xup_ne _ _ (by omega)), fun p h2 h3 => (xup_ne _ _ h3).trans (hfr p h2), _, xup_self _ _ _, fun v9 e9 => ?_⟩
    rw [hi] at e9
    cases e9
    simp [vp_updL]
  · obtain ⟨e, hp, hfr⟩ := hq
    have hfz : h1.2 z = some (cL 1 f) := (hfr z (Or.inr hz)).trans hf
    have hE : E = eS := by
      rcases hs with ⟨i, h9⟩ | h9
      · rw [← e] at h9; exact absurd h9 (by simp)
      · rw [← e] at h9; exact Sum.inr.inj h9
    subst hE
    refine ex_catch1 rfl ⟨by decide, by decide⟩ (by decide) cl_Law_15 ca_IllegalStateException (fun a9 => ?_)
    refine ex_astore_n (L' := [_, _, _]) dLaw_write_11 (by decide) rfl ?_
    refine ex_iconst (v := nI 1) dLaw_write_12 (by decide) ?_
    exact ex_iret dLaw_write_13 rfl (Nat.le_refl _) (Nat.le_refl _) ⟨by rw [← e, thr2_S], hp, fun p h2 _ => hfr p h2, f, hfz, fun v9 e9 => by rw [← e] at e9; exact absurd e9 (by simp)⟩
theorem c_Law_analyse (H : PS h x q) (hz : x + 97 ≤ z) (hzz : ∃ f, h.2 z = some (cL 1 f)) : xMet l G mLaw_analyse (d + 36) 1 6 [.ref x, .ref z] h (Lq thr2 (opAna q) h x z) := by
  have hx := H.1
  obtain ⟨f, hf⟩ := hzz
  refine xMet_of (L := [_, _, _]) (by decide) (Nat.le_of_ble_eq_true rfl) rfl ?_
  refine ex_aload_n dLaw_analyse_0 rfl ?_
  refine ex_iconst (v := nI 0) dLaw_analyse_1 (by decide) ?_
  refine ex_aload_n dLaw_analyse_2 rfl ?_
  have hs := sh_analyse q
  refine ex_call dLaw_analyse_3 (go_v (As := []) (rest := [.int (nI 0), .ref z]) dLaw_analyse_3 iv_Law_42 cd_PW_analyse ar_PW_analyse hx rfl) cd_PW_analyse (c_PW_analyse (d := d) H) (by dsimp only; omega) (Nat.le_of_ble_eq_true rfl) (Nat.le_refl _) (Nat.le_refl _) (fun v h1 hq => ?_) (fun E h1 hq => ?_)
  · obtain ⟨e, hp, hfr⟩ := hq
    have hfz : h1.2 z = some (cL 1 f) := (hfr z (Or.inr hz)).trans hf
    obtain ⟨i, hi⟩ : ∃ i : Int32, (opAna q).1 = rI i := by
      rcases hs with h9 | h9
      · exact h9
      · rw [← e] at h9; exact absurd h9 (by simp)
    rw [hi] at e
    cases e
    refine ex_i2l dLaw_analyse_6 ?_
    refine ex_lastore dLaw_analyse_7 hfz rfl (by decide) (by decide) ?_
    refine ex_goto (tgt := 14) dLaw_analyse_8 (by decide) ?_
    refine ex_iconst (v := nI 0) dLaw_analyse_14 (by decide) ?_
    refine ex_iret dLaw_analyse_15 rfl (Nat.le_refl _) (Nat.le_refl _) ⟨by rw [hi]; rfl, hp.fe (fun p h2 h3 => xup_ne _ _ (by omega)), fun p h2 h3 => (xup_ne _ _ h3).trans (hfr p h2), _, xup_self _ _ _, fun v9 e9 => ?_⟩
    rw [hi] at e9
    cases e9
    simp [vp_updL]
  · obtain ⟨e, hp, hfr⟩ := hq
    have hfz : h1.2 z = some (cL 1 f) := (hfr z (Or.inr hz)).trans hf
    have hE : E = eS := by
      rcases hs with ⟨i, h9⟩ | h9
      · rw [← e] at h9; exact absurd h9 (by simp)
      · rw [← e] at h9; exact Sum.inr.inj h9
    subst hE
    refine ex_catch1 rfl ⟨by decide, by decide⟩ (by decide) cl_Law_15 ca_IllegalStateException (fun a9 => ?_)
    refine ex_astore_n (L' := [_, _, _]) dLaw_analyse_11 (by decide) rfl ?_
    refine ex_iconst (v := nI 1) dLaw_analyse_12 (by decide) ?_
    exact ex_iret dLaw_analyse_13 rfl (Nat.le_refl _) (Nat.le_refl _) ⟨by rw [← e, thr2_S], hp, fun p h2 _ => hfr p h2, f, hfz, fun v9 e9 => by rw [← e] at e9; exact absurd e9 (by simp)⟩
theorem c_Law_length {a1 : Int32} {b2 : Bool} (H : PS h x q) (hz : x + 97 ≤ z) (hzz : ∃ f, h.2 z = some (cL 1 f)) : xMet l G mLaw_length (d + 4) 1 6 [.ref x, .int a1, .int (bI b2), .ref z] h (Lq thr1 (opLen q a1 b2) h x z) := by
  have hx := H.1
  obtain ⟨f, hf⟩ := hzz
  refine xMet_of (L := [_, _, _, _, _]) (by decide) (Nat.le_of_ble_eq_true rfl) rfl ?_
  refine ex_aload_n dLaw_length_0 rfl ?_
  refine ex_iconst (v := nI 0) dLaw_length_1 (by decide) ?_
  refine ex_aload_n dLaw_length_2 rfl ?_
  refine ex_iload_n dLaw_length_3 rfl ?_
  refine ex_iload_n dLaw_length_4 rfl ?_
  have hs := sh_length q a1 b2
  refine ex_call dLaw_length_5 (go_v (As := [.int a1, .int (bI b2)]) (rest := [.int (nI 0), .ref z]) dLaw_length_5 iv_Law_45 cd_PW_length ar_PW_length hx rfl) cd_PW_length (c_PW_length (d := d) H) (by dsimp only; omega) (Nat.le_of_ble_eq_true rfl) (Nat.le_refl _) (Nat.le_refl _) (fun v h1 hq => ?_) (fun E h1 hq => ?_)
  · obtain ⟨e, hp, hfr⟩ := hq
    have hfz : h1.2 z = some (cL 1 f) := (hfr z (Or.inr hz)).trans hf
    obtain ⟨i, hi⟩ : ∃ i : Int32, (opLen q a1 b2).1 = rI i := by
      rcases hs with h9 | h9
      · exact h9
      · rw [← e] at h9; exact absurd h9 (by simp)
    rw [hi] at e
    cases e
    refine ex_i2l dLaw_length_8 ?_
    refine ex_lastore dLaw_length_9 hfz rfl (by decide) (by decide) ?_
    refine ex_goto (tgt := 17) dLaw_length_10 (by decide) ?_
    refine ex_iconst (v := nI 0) dLaw_length_17 (by decide) ?_
    refine ex_iret dLaw_length_18 rfl (Nat.le_refl _) (Nat.le_refl _) ⟨by rw [hi]; rfl, hp.fe (fun p h2 h3 => xup_ne _ _ (by omega)), fun p h2 h3 => (xup_ne _ _ h3).trans (hfr p h2), _, xup_self _ _ _, fun v9 e9 => ?_⟩
    rw [hi] at e9
    cases e9
    simp [vp_updL]
  · obtain ⟨e, hp, hfr⟩ := hq
    have hfz : h1.2 z = some (cL 1 f) := (hfr z (Or.inr hz)).trans hf
    have hE : E = eO := by
      rcases hs with ⟨i, h9⟩ | h9
      · rw [← e] at h9; exact absurd h9 (by simp)
      · rw [← e] at h9; exact Sum.inr.inj h9
    subst hE
    refine ex_catch1 rfl ⟨by decide, by decide⟩ (by decide) cl_Law_49 ca_IndexOutOfBoundsException (fun a9 => ?_)
    refine ex_astore (L' := [_, _, _, _, _]) dLaw_length_13 (by decide) rfl ?_
    refine ex_iconst (v := nI 1) dLaw_length_15 (by decide) ?_
    exact ex_iret dLaw_length_16 rfl (Nat.le_refl _) (Nat.le_refl _) ⟨by rw [← e, thr1_O], hp, fun p h2 _ => hfr p h2, f, hfz, fun v9 e9 => by rw [← e] at e9; exact absurd e9 (by simp)⟩
theorem c_Law_result {a1 : Int32} {a2 : Int32} {b3 : Bool} (HK : ∀ k ∈ q.2.2.2.2.2, VK k) (H : PS h x q) (hz : x + 97 ≤ z) (hzz : ∃ f, h.2 z = some (cL 1 f)) : xMet l G mLaw_result (d + 4) 1 6 [.ref x, .int a1, .int a2, .int (bI b3), .ref z] h (Lq thr1 (opRes q a1 a2 b3) h x z) := by
  have hx := H.1
  obtain ⟨f, hf⟩ := hzz
  refine xMet_of (L := [_, _, _, _, _, _]) (by decide) (Nat.le_of_ble_eq_true rfl) rfl ?_
  refine ex_aload dLaw_result_0 rfl ?_
  refine ex_iconst (v := nI 0) dLaw_result_2 (by decide) ?_
  refine ex_aload_n dLaw_result_3 rfl ?_
  refine ex_iload_n dLaw_result_4 rfl ?_
  refine ex_iload_n dLaw_result_5 rfl ?_
  refine ex_iload_n dLaw_result_6 rfl ?_
  have hs := sh_result q a1 a2 b3
  refine ex_call dLaw_result_7 (go_v (As := [.int a1, .int a2, .int (bI b3)]) (rest := [.int (nI 0), .ref z]) dLaw_result_7 iv_Law_51 cd_PW_result ar_PW_result hx rfl) cd_PW_result (c_PW_result (d := d) HK H) (by dsimp only; omega) (Nat.le_of_ble_eq_true rfl) (Nat.le_refl _) (Nat.le_refl _) (fun v h1 hq => ?_) (fun E h1 hq => ?_)
  · obtain ⟨e, hp, hfr⟩ := hq
    have hfz : h1.2 z = some (cL 1 f) := (hfr z (Or.inr hz)).trans hf
    obtain ⟨i, hi⟩ : ∃ i : Int32, (opRes q a1 a2 b3).1 = rI i := by
      rcases hs with h9 | h9
      · exact h9
      · rw [← e] at h9; exact absurd h9 (by simp)
    rw [hi] at e
    cases e
    refine ex_i2l dLaw_result_10 ?_
    refine ex_lastore dLaw_result_11 hfz rfl (by decide) (by decide) ?_
    refine ex_goto (tgt := 19) dLaw_result_12 (by decide) ?_
    refine ex_iconst (v := nI 0) dLaw_result_19 (by decide) ?_
    refine ex_iret dLaw_result_20 rfl (Nat.le_refl _) (Nat.le_refl _) ⟨by rw [hi]; rfl, hp.fe (fun p h2 h3 => xup_ne _ _ (by omega)), fun p h2 h3 => (xup_ne _ _ h3).trans (hfr p h2), _, xup_self _ _ _, fun v9 e9 => ?_⟩
    rw [hi] at e9
    cases e9
    simp [vp_updL]
  · obtain ⟨e, hp, hfr⟩ := hq
    have hfz : h1.2 z = some (cL 1 f) := (hfr z (Or.inr hz)).trans hf
    have hE : E = eO := by
      rcases hs with ⟨i, h9⟩ | h9
      · rw [← e] at h9; exact absurd h9 (by simp)
      · rw [← e] at h9; exact Sum.inr.inj h9
    subst hE
    refine ex_catch1 rfl ⟨by decide, by decide⟩ (by decide) cl_Law_49 ca_IndexOutOfBoundsException (fun a9 => ?_)
    refine ex_astore (L' := [_, _, _, _, _, _]) dLaw_result_15 (by decide) rfl ?_
    refine ex_iconst (v := nI 1) dLaw_result_17 (by decide) ?_
    exact ex_iret dLaw_result_18 rfl (Nat.le_refl _) (Nat.le_refl _) ⟨by rw [← e, thr1_O], hp, fun p h2 _ => hfr p h2, f, hfz, fun v9 e9 => by rw [← e] at e9; exact absurd e9 (by simp)⟩
theorem c_Law_sample (H : PS h x q) (hz : x + 97 ≤ z) (hzz : ∃ f, h.2 z = some (cL 1 f)) : xMet l G mLaw_sample (d + 6) 1 6 [.ref x, .ref z] h (Lq thr2 (opSample q) h x z) := by
  have hx := H.1
  obtain ⟨f, hf⟩ := hzz
  refine xMet_of (L := [_, _, _]) (by decide) (Nat.le_of_ble_eq_true rfl) rfl ?_
  refine ex_aload_n dLaw_sample_0 rfl ?_
  refine ex_iconst (v := nI 0) dLaw_sample_1 (by decide) ?_
  refine ex_aload_n dLaw_sample_2 rfl ?_
  have hs := sh_sample q
  refine ex_call dLaw_sample_3 (go_v (As := []) (rest := [.int (nI 0), .ref z]) dLaw_sample_3 iv_Law_55 cd_PW_sample ar_PW_sample hx rfl) cd_PW_sample (c_PW_sample (d := d) H) (by dsimp only; omega) (Nat.le_of_ble_eq_true rfl) (Nat.le_refl _) (Nat.le_refl _) (fun v h1 hq => ?_) (fun E h1 hq => ?_)
  · obtain ⟨e, hp, hfr⟩ := hq
    have hfz : h1.2 z = some (cL 1 f) := (hfr z (Or.inr hz)).trans hf
    obtain ⟨i, hi⟩ : ∃ i : Int32, (opSample q).1 = rI i := by
      rcases hs with h9 | h9
      · exact h9
      · rw [← e] at h9; exact absurd h9 (by simp)
    rw [hi] at e
    cases e
    refine ex_i2l dLaw_sample_6 ?_
    refine ex_lastore dLaw_sample_7 hfz rfl (by decide) (by decide) ?_
    refine ex_goto (tgt := 14) dLaw_sample_8 (by decide) ?_
    refine ex_iconst (v := nI 0) dLaw_sample_14 (by decide) ?_
    refine ex_iret dLaw_sample_15 rfl (Nat.le_refl _) (Nat.le_refl _) ⟨by rw [hi]; rfl, hp.fe (fun p h2 h3 => xup_ne _ _ (by omega)), fun p h2 h3 => (xup_ne _ _ h3).trans (hfr p h2), _, xup_self _ _ _, fun v9 e9 => ?_⟩
    rw [hi] at e9
    cases e9
    simp [vp_updL]
  · obtain ⟨e, hp, hfr⟩ := hq
    have hfz : h1.2 z = some (cL 1 f) := (hfr z (Or.inr hz)).trans hf
    have hE : E = eS := by
      rcases hs with ⟨i, h9⟩ | h9
      · rw [← e] at h9; exact absurd h9 (by simp)
      · rw [← e] at h9; exact Sum.inr.inj h9
    subst hE
    refine ex_catch1 rfl ⟨by decide, by decide⟩ (by decide) cl_Law_15 ca_IllegalStateException (fun a9 => ?_)
    refine ex_astore_n (L' := [_, _, _]) dLaw_sample_11 (by decide) rfl ?_
    refine ex_iconst (v := nI 1) dLaw_sample_12 (by decide) ?_
    exact ex_iret dLaw_sample_13 rfl (Nat.le_refl _) (Nat.le_refl _) ⟨by rw [← e, thr2_S], hp, fun p h2 _ => hfr p h2, f, hfz, fun v9 e9 => by rw [← e] at e9; exact absurd e9 (by simp)⟩
end LAWH
