/-! Samples. Sa h a ss: at a the object, at a + 1 and a + 2 the arrays, then the lines, two by two. -/
abbrev cQ (N : Nat) (f : Nat → Option Nat) : xE := .inl (2, N, .inr (.inr (.inr (.inr f))))
abbrev cSamp (a c : Nat) : xE := .inr (5, [.ref (a + 1), .ref (a + 2), .int (nI c)])
def Sa (h : xH) (a : Nat) (ss : List (List Nat × List Nat)) : Prop := ∃ f g : Nat → Option Nat, h.2 a = some (cSamp a ss.length) ∧ h.2 (a + 1) = some (cQ 8 f) ∧ h.2 (a + 2) = some (cQ 8 g) ∧ (∀ j, j < 8 → f j = some (a + 3 + 4 * j)) ∧ (∀ j, j < 8 → g j = some (a + 5 + 4 * j)) ∧ (∀ j, j < 8 → Ln h (a + 3 + 4 * j) 4 (ss.getD j ([], [])).1) ∧ (∀ j, j < 8 → Ln h (a + 5 + 4 * j) 5 (ss.getD j ([], [])).2) ∧ ss.length ≤ 8
theorem Sa.sm {h h' : xH} {a lo hi : Nat} {ss : List (List Nat × List Nat)} (H : Sa h a ss) (hs : Sm h h' lo hi) (hd : a + 35 ≤ lo ∨ hi ≤ a) : Sa h' a ss := by
  obtain ⟨f, g, h1, h2, h3, h4, h5, h6, h7, h8⟩ := H
  exact ⟨f, g, (hs.2 _ (by omega)).trans h1, (hs.2 _ (by omega)).trans h2, (hs.2 _ (by omega)).trans h3, h4, h5, fun j hj => (h6 j hj).sm hs (by omega), fun j hj => (h7 j hj).sm hs (by omega), h8⟩
theorem getD_len {α : Type} {l : List α} {j : Nat} {d : α} (h : l.length ≤ j) : l.getD j d = d := by
  rw [List.getD_eq_getElem?_getD, List.getElem?_eq_none h]; rfl
theorem getD_snoc {α : Type} {l : List α} {d x : α} : (l ++ [x]).getD l.length d = x := by
  rw [List.getD_eq_getElem?_getD, List.getElem?_append_right (Nat.le_refl _)]; simp
theorem getD_snoc' {α : Type} {l : List α} {d x : α} {j : Nat} (h : j ≠ l.length) : (l ++ [x]).getD j d = l.getD j d := by
  rw [List.getD_eq_getElem?_getD, List.getD_eq_getElem?_getD]
  rcases Nat.lt_or_gt_of_ne h with q | q
  · rw [List.getElem?_append_left q]
  · rw [List.getElem?_append_right (by omega), List.getElem?_eq_none (show l.length ≤ j by omega), List.getElem?_eq_none (by simp; omega)]
section SAMP
variable {l : Launch} {G : xG} {d : Nat} {h : xH} {a : Nat} {ss : List (List Nat × List Nat)}
theorem c_Samp_count (H : Sa h a ss) : xMet l G mSamp_count d 0 0 [.ref a] h (fun o h' => o = .inl (some (.int (nI ss.length))) ∧ h' = h) := by
  obtain ⟨f, g, h1, h2, h3, h4, h5, h6, h7, h8⟩ := H
  refine xMet_of (L := [_]) (by decide) (Nat.le_of_ble_eq_true rfl) rfl ?_
  refine ex_aload_n dSamp_count_0 rfl ?_
  refine ex_get dSamp_count_1 fg_Samp_23 h1 rfl ?_
  exact ex_iret dSamp_count_4 rfl (Nat.le_refl _) (Nat.le_refl _) ⟨rfl, rfl⟩
theorem c_Samp_lowerOf {i : Nat} (hi : i < 8) (H : Sa h a ss) : xMet l G mSamp_lowerOf d 0 0 [.ref a, .int (nI i)] h (fun o h' => o = .inl (some (.ref (a + 3 + 4 * i))) ∧ h' = h) := by
  obtain ⟨f, g, h1, h2, h3, h4, h5, h6, h7, h8⟩ := H
  refine xMet_of (L := [_, _]) (by decide) (Nat.le_of_ble_eq_true rfl) rfl ?_
  refine ex_aload_n dSamp_lowerOf_0 rfl ?_
  refine ex_get dSamp_lowerOf_1 fg_Samp_11 h1 rfl ?_
  refine ex_iload_n dSamp_lowerOf_4 rfl ?_
  refine ex_aaload dSamp_lowerOf_5 h2 (fun _ => rfl) rfl hi (by omega) (h4 i hi) ?_
  exact ex_aret dSamp_lowerOf_6 rfl (Or.inl ⟨_, rfl⟩) (Nat.le_refl _) (Nat.le_refl _) ⟨rfl, rfl⟩
theorem c_Samp_upperOf {i : Nat} (hi : i < 8) (H : Sa h a ss) : xMet l G mSamp_upperOf d 0 0 [.ref a, .int (nI i)] h (fun o h' => o = .inl (some (.ref (a + 5 + 4 * i))) ∧ h' = h) := by
  obtain ⟨f, g, h1, h2, h3, h4, h5, h6, h7, h8⟩ := H
  refine xMet_of (L := [_, _]) (by decide) (Nat.le_of_ble_eq_true rfl) rfl ?_
  refine ex_aload_n dSamp_upperOf_0 rfl ?_
  refine ex_get dSamp_upperOf_1 fg_Samp_17 h1 rfl ?_
  refine ex_iload_n dSamp_upperOf_4 rfl ?_
  refine ex_aaload dSamp_upperOf_5 h3 (fun _ => rfl) rfl hi (by omega) (h5 i hi) ?_
  exact ex_aret dSamp_upperOf_6 rfl (Or.inl ⟨_, rfl⟩) (Nat.le_refl _) (Nat.le_refl _) ⟨rfl, rfl⟩
theorem c_Samp_add {b c N M : Nat} {u v : List Nat} (hl : ss.length < 8) (hb : b + 2 ≤ a ∨ a + 35 ≤ b) (hc : c + 2 ≤ a ∨ a + 35 ≤ c) (H : Sa h a ss) (HU : Ln h b N u) (HV : Ln h c M v) : xMet l G mSamp_add (d + 4) 0 0 [.ref a, .ref b, .ref c] h (fun o h' => o = .inl (some (.int (nI ss.length))) ∧ Sa h' a (ss ++ [(u.take 4, v.take 5)]) ∧ Sm h h' a (a + 35)) := by
  obtain ⟨f, g, h1, h2, h3, h4, h5, h6, h7, h8⟩ := H
  have L1 := h6 ss.length hl
  have L1c := L1
  obtain ⟨f1, a1, -⟩ := L1c
  refine xMet_of (L := [_, _, _]) (by decide) (Nat.le_of_ble_eq_true rfl) rfl ?_
  refine ex_aload_n dSamp_add_0 rfl ?_
  refine ex_get dSamp_add_1 fg_Samp_11 h1 rfl ?_
  refine ex_aload_n dSamp_add_4 rfl ?_
  refine ex_get dSamp_add_5 fg_Samp_23 h1 rfl ?_
  refine ex_aaload dSamp_add_8 h2 (fun _ => rfl) rfl hl (by omega) (h4 _ hl) ?_
  refine ex_aload_n dSamp_add_9 rfl ?_
  refine ex_v1 dSamp_add_10 iv_Samp_27 cd_Line_copy ar_Line_copy a1 (c_Line_copy (d := d) L1 HU (by omega)) (by dsimp only; omega) (Nat.le_of_ble_eq_true rfl) (Nat.le_refl _) (Nat.le_refl _) (fun E h9 q9 => by simp at q9) (fun v9 g1 hq => ?_)
  obtain ⟨e, L2, S1⟩ := hq
  cases e
  have k1 := (S1.2 a (by omega)).trans h1
  have k3 := (S1.2 (a + 2) (by omega)).trans h3
  have M1 := (h7 ss.length hl).sm S1 (by omega)
  have M1c := M1
  obtain ⟨f2, a2, -⟩ := M1c
  refine ex_aload_n dSamp_add_13 rfl ?_
  refine ex_get dSamp_add_14 fg_Samp_17 k1 rfl ?_
  refine ex_aload_n dSamp_add_17 rfl ?_
  refine ex_get dSamp_add_18 fg_Samp_23 k1 rfl ?_
  refine ex_aaload dSamp_add_21 k3 (fun _ => rfl) rfl hl (by omega) (h5 _ hl) ?_
  refine ex_aload_n dSamp_add_22 rfl ?_
  refine ex_v1 dSamp_add_23 iv_Samp_27 cd_Line_copy ar_Line_copy a2 (c_Line_copy (d := d) M1 (HV.sm S1 (by omega)) (by omega)) (by dsimp only; omega) (Nat.le_of_ble_eq_true rfl) (Nat.le_refl _) (Nat.le_refl _) (fun E h9 q9 => by simp at q9) (fun v8 g2 hq => ?_)
  obtain ⟨e, M2, S2⟩ := hq
  cases e
  have m1 := (S2.2 a (by omega)).trans k1
  refine ex_aload_n dSamp_add_26 rfl ?_
  refine ex_dup dSamp_add_27 rfl ?_
  refine ex_get dSamp_add_28 fg_Samp_23 m1 rfl ?_
  refine ex_iconst (v := nI 1) dSamp_add_31 (by decide) ?_
  refine ex_iadd dSamp_add_32 ?_
  rw [show nI ss.length + nI 1 = nI (ss.length + 1) from nI_add _ _]
  refine ex_put (fs' := [_, _, _]) dSamp_add_33 (fp_Samp_23 _) m1 rfl rfl (Nat.le_of_ble_eq_true rfl) rfl ?_
  refine ex_aload_n dSamp_add_36 rfl ?_
  refine ex_get dSamp_add_37 fg_Samp_23 (xup_self _ _ _) rfl ?_
  refine ex_iconst (v := nI 1) dSamp_add_40 (by decide) ?_
  refine ex_isub dSamp_add_41 ?_
  have S3 : Sm g2 (xup g2 a (cSamp a (ss.length + 1))) a (a + 1) := Sm.up (by omega) (by omega)
  have SS := ((S1.wide (lo' := a) (hi' := a + 35) (by omega) (by omega)).trans (S2.wide (by omega) (by omega))).trans (S3.wide (by omega) (by omega))
  refine ex_iret dSamp_add_42 rfl (Nat.le_refl _) (Nat.le_refl _) ⟨by rw [show nI (ss.length + 1) - nI 1 = nI ss.length from by rw [pk_sub (by omega)]; rfl], ⟨f, g, by rw [xup_self]; simp, ?_, ?_, h4, h5, fun j hj => ?_, fun j hj => ?_, by simp; omega⟩, SS⟩
  · exact (S3.2 _ (by omega)).trans ((S2.2 _ (by omega)).trans ((S1.2 _ (by omega)).trans h2))
  · exact (S3.2 _ (by omega)).trans ((S2.2 _ (by omega)).trans k3)
  · by_cases e : j = ss.length
    · subst e; rw [getD_snoc]; exact (L2.sm S2 (by omega)).sm S3 (by omega)
    · rw [getD_snoc' e]; exact (((h6 j hj).sm S1 (by omega)).sm S2 (by omega)).sm S3 (by omega)
  · by_cases e : j = ss.length
    · subst e; rw [getD_snoc]; exact M2.sm S3 (by omega)
    · rw [getD_snoc' e]; exact (((h7 j hj).sm S1 (by omega)).sm S2 (by omega)).sm S3 (by omega)
theorem Ln.eq {h h' : xH} {b N : Nat} {w : List Nat} (H : Ln h b N w) (e1 : h'.2 b = h.2 b) (e2 : h'.2 (b + 1) = h.2 (b + 1)) : Ln h' b N w := by
  obtain ⟨f, h1, h2, h3⟩ := H
  exact ⟨f, e1.trans h1, e2.trans h2, h3⟩
theorem c_Samp_init (hz : h.1 = a + 1) (h1 : h.2 a = some (.inr (5, [.null, .null, .int 0]))) : xMet l G mSamp_init (d + 1) 34 120 [.ref a] h (fun o h' => o = .inl none ∧ Sa h' a [] ∧ h'.1 = a + 35 ∧ ∀ q : Nat, q < a → h'.2 q = h.2 q) := by
  have loop : ∀ (j i : Nat) (hi : xH) (f g : Nat → Option Nat) (k n : Nat), i + j = 8 → k = 2 + 4 * i → n = 16 + 13 * i → hi.1 = a + 3 + 4 * i → hi.2 a = some (cSamp a 0) → hi.2 (a + 1) = some (cQ 8 f) → hi.2 (a + 2) = some (cQ 8 g) → (∀ j, j < i → f j = some (a + 3 + 4 * j)) → (∀ j, j < i → g j = some (a + 5 + 4 * j)) → (∀ j, j < i → Ln hi (a + 3 + 4 * j) 4 []) → (∀ j, j < i → Ln hi (a + 5 + 4 * j) 5 []) → (∀ q : Nat, q < a → hi.2 q = h.2 q) → Ex (l, G, d + 1, 34, 120, h, fun o h' => o = .inl none ∧ Sa h' a [] ∧ h'.1 = a + 35 ∧ ∀ q : Nat, q < a → h'.2 q = h.2 q) mSamp_init 24 [some (.ref a), some (.int (nI i))] [] hi k n := by
    intro j
    induction j with
    | zero =>
      intro i hi f g k n hij hk hn z o1 o2 o3 e1 e2 L1 L2 F
      have e : i = 8 := by omega
      subst e
      refine ex_iload_n dSamp_init_24 rfl ?_
      refine ex_bipush (v := nI 8) dSamp_init_25 (by decide) ?_
      refine ex_icmp_ge (tgt := 64) dSamp_init_27 (by decide) (fun hc => ?_) (fun hc => ?_)
      · exact ex_vret dSamp_init_64 rfl (by dsimp only; omega) (by dsimp only; omega) ⟨rfl, ⟨f, g, o1, o2, o3, e1, e2, L1, L2, by simp⟩, z, F⟩
      · exact absurd (by decide) hc
    | succ j ih =>
      intro i hi f g k n hij hk hn z o1 o2 o3 e1 e2 L1 L2 F
      refine ex_iload_n dSamp_init_24 rfl ?_
      refine ex_bipush (v := nI 8) dSamp_init_25 (by decide) ?_
      refine ex_icmp_ge (tgt := 64) dSamp_init_27 (by decide) (fun hc => ?_) (fun hc => ?_)
      · exact absurd hc (nI_ge (by omega) (by omega))
      refine ex_aload_n dSamp_init_30 rfl ?_
      refine ex_get dSamp_init_31 fg_Samp_11 o1 rfl ?_
      refine ex_iload_n dSamp_init_34 rfl ?_
      refine ex_new dSamp_init_35 nw_Samp_9 (by dsimp only; omega) (by dsimp only; omega) ?_
      rw [z]
      refine ex_dup dSamp_init_38 rfl ?_
      refine ex_iconst (v := nI 4) dSamp_init_39 (by decide) ?_
      refine ex_i1 dSamp_init_40 ii_Samp_20 cd_Line_init ar_Line_init (c_Line_init (d := d) (a := a + 3 + 4 * i) (N := 4) (by omega) (by simp [xnew, z]) (by simp [xnew, z])) (by dsimp only; omega) (Nat.le_of_ble_eq_true rfl) (by dsimp only; omega) (by dsimp only; omega) (fun E h9 q9 => by simp at q9) (fun v9 g1 hq => ?_)
      obtain ⟨e, N1, z1, F1⟩ := hq
      cases e
      have w1 : ∀ q : Nat, q < a + 3 + 4 * i → g1.2 q = hi.2 q := fun q hq => by rw [F1 q (by omega), xnew_ne _ (by omega)]
      have N1c := N1
      obtain ⟨nf, n1, -⟩ := N1c
      have S1 : Sm g1 (xup g1 (a + 1) (cQ 8 (va_up f i (some (a + 3 + 4 * i))))) (a + 1) (a + 2) := Sm.up (by omega) (by omega)
      refine ex_aastore dSamp_init_43 ((w1 _ (by omega)).trans o2) (fun _ => rfl) n1 rfl rfl (by omega) (by omega) ?_
      have N1a := N1.sm S1 (by omega)
      have w2 : ∀ q : Nat, q < a + 3 + 4 * i → q ≠ a + 1 → (xup g1 (a + 1) (cQ 8 (va_up f i (some (a + 3 + 4 * i))))).2 q = hi.2 q := fun q hq hn => (S1.2 q (by omega)).trans (w1 q hq)
      have x2 : (xup g1 (a + 1) (cQ 8 (va_up f i (some (a + 3 + 4 * i))))).2 (a + 1) = some (cQ 8 (va_up f i (some (a + 3 + 4 * i)))) := xup_self _ _ _
      have z2 : (xup g1 (a + 1) (cQ 8 (va_up f i (some (a + 3 + 4 * i))))).1 = a + 5 + 4 * i := by rw [xup_1, z1]; omega
      generalize xup g1 (a + 1) (cQ 8 (va_up f i (some (a + 3 + 4 * i)))) = g2 at *
      have o1b := (w2 a (by omega) (by omega)).trans o1
      refine ex_aload_n dSamp_init_44 rfl ?_
      refine ex_get dSamp_init_45 fg_Samp_17 o1b rfl ?_
      refine ex_iload_n dSamp_init_48 rfl ?_
      refine ex_new dSamp_init_49 nw_Samp_9 (by dsimp only; omega) (by dsimp only; omega) ?_
      rw [z2]
      refine ex_dup dSamp_init_52 rfl ?_
      refine ex_iconst (v := nI 5) dSamp_init_53 (by decide) ?_
      refine ex_i1 dSamp_init_54 ii_Samp_20 cd_Line_init ar_Line_init (c_Line_init (d := d) (a := a + 5 + 4 * i) (N := 5) (by omega) (by simp [xnew, z2]) (by simp [xnew, z2])) (by dsimp only; omega) (Nat.le_of_ble_eq_true rfl) (by dsimp only; omega) (by dsimp only; omega) (fun E h9 q9 => by simp at q9) (fun v8 g3 hq => ?_)
      obtain ⟨e, N2, z3, F3⟩ := hq
      cases e
      have w3 : ∀ q : Nat, q < a + 5 + 4 * i → g3.2 q = g2.2 q := fun q hq => by rw [F3 q (by omega), xnew_ne _ (by omega)]
      have N2c := N2
      obtain ⟨nf2, n2, -⟩ := N2c
      have S2 : Sm g3 (xup g3 (a + 2) (cQ 8 (va_up g i (some (a + 5 + 4 * i))))) (a + 2) (a + 3) := Sm.up (by omega) (by omega)
      refine ex_aastore dSamp_init_57 ((w3 _ (by omega)).trans ((w2 _ (by omega) (by omega)).trans o3)) (fun _ => rfl) n2 rfl rfl (by omega) (by omega) ?_
      refine ex_iinc (L' := [_, _]) dSamp_init_58 rfl rfl (by decide) rfl ?_
      refine ex_goto (tgt := 24) dSamp_init_61 (by decide) ?_
      rw [show nI i + Int32.ofInt 1 = nI (i + 1) from nI_1 i]
      refine ih (i + 1) _ _ _ _ _ (by omega) (by omega) (by omega) (by rw [xup_1, z3]; omega) ((S2.2 _ (by omega)).trans ((w3 _ (by omega)).trans o1b)) ((S2.2 _ (by omega)).trans ((w3 _ (by omega)).trans x2)) (xup_self _ _ _) (fun j hj => ?_) (fun j hj => ?_) (fun j hj => ?_) (fun j hj => ?_) (fun q hq => (S2.2 _ (by omega)).trans ((w3 _ (by omega)).trans ((w2 _ (by omega) (by omega)).trans (F q hq))))
      · by_cases e : j = i
        · subst e; rw [va_up_self]
        · rw [va_up_ne _ _ e]; exact e1 j (by omega)
      · by_cases e : j = i
        · subst e; rw [va_up_self]
        · rw [va_up_ne _ _ e]; exact e2 j (by omega)
      · by_cases e : j = i
        · subst e; exact N1a.eq ((S2.2 _ (by omega)).trans (w3 _ (by omega))) ((S2.2 _ (by omega)).trans (w3 _ (by omega)))
        · exact (L1 j (by omega)).eq ((S2.2 _ (by omega)).trans ((w3 _ (by omega)).trans (w2 _ (by omega) (by omega)))) ((S2.2 _ (by omega)).trans ((w3 _ (by omega)).trans (w2 _ (by omega) (by omega))))
      · by_cases e : j = i
        · subst e; exact N2.sm S2 (by omega)
        · exact (L2 j (by omega)).eq ((S2.2 _ (by omega)).trans ((w3 _ (by omega)).trans (w2 _ (by omega) (by omega)))) ((S2.2 _ (by omega)).trans ((w3 _ (by omega)).trans (w2 _ (by omega) (by omega))))
  refine xMet_of (L := [_, _]) (by decide) (Nat.le_of_ble_eq_true rfl) rfl ?_
  refine ex_aload_n dSamp_init_0 rfl ?_
  refine ex_objInit dSamp_init_1 oi_Samp_3 oi_1 oi_2 (by decide) ?_
  refine ex_aload_n dSamp_init_4 rfl ?_
  refine ex_bipush (v := nI 8) dSamp_init_5 (by decide) ?_
  refine ex_anew (t := 2) dSamp_init_7 cl_Samp_9 aw_Line (fun _ => rfl) rfl (by omega) (Nat.le_of_ble_eq_true rfl) (Nat.le_of_ble_eq_true rfl) ?_
  rw [hz]
  have e1 : (xnew h (cQ 8 (fun _ => none))).2 a = some (.inr (5, [.null, .null, .int 0])) := by rw [xnew_ne _ (by omega)]; exact h1
  refine ex_put (fs' := [_, _, _]) dSamp_init_10 fp_Samp_11 e1 rfl rfl (Nat.le_of_ble_eq_true rfl) rfl ?_
  refine ex_aload_n dSamp_init_13 rfl ?_
  refine ex_bipush (v := nI 8) dSamp_init_14 (by decide) ?_
  refine ex_anew (t := 2) dSamp_init_16 cl_Samp_9 aw_Line (fun _ => rfl) rfl (by omega) (Nat.le_of_ble_eq_true rfl) (Nat.le_of_ble_eq_true rfl) ?_
  have hz2 : (xup (xnew h (cQ 8 (fun _ => none))) a (.inr (5, [.ref (a + 1), .null, .int 0]))).1 = a + 2 := by simp [xup, xnew, hz]
  rw [hz2]
  have e2 : (xnew (xup (xnew h (cQ 8 (fun _ => none))) a (.inr (5, [.ref (a + 1), .null, .int 0]))) (cQ 8 (fun _ => none))).2 a = some (.inr (5, [.ref (a + 1), .null, .int 0])) := by rw [xnew_ne _ (by omega), xup_self]
  refine ex_put (fs' := [_, _, _]) dSamp_init_19 fp_Samp_17 e2 rfl rfl (Nat.le_of_ble_eq_true rfl) rfl ?_
  refine ex_iconst (v := nI 0) dSamp_init_22 (by decide) ?_
  refine ex_istore_n (L' := [_, _]) dSamp_init_23 (by decide) rfl ?_
  refine loop 8 0 _ (fun _ => none) (fun _ => none) _ _ (by omega) rfl rfl (by simp [xup, xnew, hz]) (xup_self _ _ _) ?_ ?_ (fun j hj => absurd hj (Nat.not_lt_zero _)) (fun j hj => absurd hj (Nat.not_lt_zero _)) (fun j hj => absurd hj (Nat.not_lt_zero _)) (fun j hj => absurd hj (Nat.not_lt_zero _)) (fun q hq => ?_)
  · rw [xup_ne _ _ (by omega)]; simp [xnew, xup, hz]
  · rw [xup_ne _ _ (by omega)]; simp [xnew, xup, hz]
  · simp [xnew, xup, hz, show q ≠ a by omega, show q ≠ a + 1 by omega, show q ≠ a + 2 by omega]
end SAMP
