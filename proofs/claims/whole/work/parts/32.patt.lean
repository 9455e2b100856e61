/-! Patterns. Pt h a fl sz hv st ss ls: at a the object, at a + 1 the sizes, at a + 2 what each pair is had by. -/
abbrev cPatt (a : Nat) (fl : Bool) (st ss ls : Nat) : xE := .inr (2, [.int (bI fl), .ref (a + 1), .ref (a + 2), .int (nI st), .int (nI ss), .int (nI ls)])
def Pt (h : xH) (a : Nat) (fl : Bool) (sz hv : Nat → Nat) (st ss ls : Nat) : Prop := ∃ f g : Nat → Int32, h.2 a = some (cPatt a fl st ss ls) ∧ h.2 (a + 1) = some (cI 8 f) ∧ h.2 (a + 2) = some (cI 10 g) ∧ (∀ j, j < 8 → f j = nI (sz j)) ∧ (∀ j, j < 10 → g j = nI (hv j)) ∧ (∀ j, j < 10 → hv j < 2 ^ 24) ∧ st < 2 ^ 24 ∧ ss < 2 ^ 24 ∧ ls < 2 ^ 24 ∧ ∀ j, j < 8 → sz j ≤ 2
theorem Pt.sm {h h' : xH} {a lo hi : Nat} {fl : Bool} {sz hv : Nat → Nat} {st ss ls : Nat} (H : Pt h a fl sz hv st ss ls) (hs : Sm h h' lo hi) (hd : a + 3 ≤ lo ∨ hi ≤ a) : Pt h' a fl sz hv st ss ls := by
  obtain ⟨f, g, h1, h2, h3, h4⟩ := H
  exact ⟨f, g, by rw [hs.2 a (by omega)]; exact h1, by rw [hs.2 (a + 1) (by omega)]; exact h2, by rw [hs.2 (a + 2) (by omega)]; exact h3, h4⟩
theorem Pt.obj {h : xH} {a : Nat} {fl : Bool} {sz hv : Nat → Nat} {st ss ls st' ss' ls' : Nat} (H : Pt h a fl sz hv st ss ls) (h1 : st' < 2 ^ 24) (h2 : ss' < 2 ^ 24) (h3 : ls' < 2 ^ 24) : Pt (xup h a (cPatt a fl st' ss' ls')) a fl sz hv st' ss' ls' ∧ Sm h (xup h a (cPatt a fl st' ss' ls')) a (a + 3) := by
  obtain ⟨f, g, e1, e2, e3, e4, e5, e6, e7, e8, e9, e10⟩ := H
  exact ⟨⟨f, g, xup_self _ _ _, by rw [xup_ne _ _ (by omega)]; exact e2, by rw [xup_ne _ _ (by omega)]; exact e3, e4, e5, e6, h1, h2, h3, e10⟩, Sm.up (by omega) (by omega)⟩
section PATT
variable {l : Launch} {G : xG} {d : Nat} {h : xH} {a : Nat} {fl : Bool} {sz hv : Nat → Nat} {st ss ls : Nat}
theorem c_Patt_goalOf {c : Nat} (hc : c < 8) : xMet l G mPatt_goalOf d 0 0 [.int (nI c)] h (fun o h' => o = .inl (some (.int (nI (pgoal c)))) ∧ h' = h) := by
  refine xMet_of (L := [_]) (by decide) (Nat.le_of_ble_eq_true rfl) rfl ?_
  refine ex_iconst (v := nI 1) dPatt_goalOf_0 (by decide) ?_
  refine ex_iconst (v := nI 3) dPatt_goalOf_1 (by decide) ?_
  refine ex_iload_n dPatt_goalOf_2 rfl ?_
  refine ex_imul dPatt_goalOf_3 ?_
  refine ex_iconst (v := nI 2) dPatt_goalOf_4 (by decide) ?_
  refine ex_iadd dPatt_goalOf_5 ?_
  refine ex_ishl dPatt_goalOf_6 ?_
  rw [pk_mul, nI_add, nb_shl (a := 1) (by omega) (by have := pgoal_lt hc; rw [pgoal, Nat.shiftLeft_eq] at this; omega)]
  exact ex_iret dPatt_goalOf_7 rfl (Nat.le_refl _) (Nat.le_refl _) ⟨rfl, rfl⟩
theorem c_Patt_lowered {b c : Nat} (hb : b < 2 ^ 24) (hc : c < 8) : xMet l G mPatt_lowered d 0 0 [.int (nI b), .int (nI c)] h (fun o h' => o = .inl (some (.int (nI (plow b c)))) ∧ h' = h) := by
  refine xMet_of (L := [_, _, _]) (by decide) (Nat.le_of_ble_eq_true rfl) rfl ?_
  refine ex_bipush (v := nI 7) dPatt_lowered_0 (by decide) ?_
  refine ex_iconst (v := nI 3) dPatt_lowered_2 (by decide) ?_
  refine ex_iload_n dPatt_lowered_3 rfl ?_
  refine ex_imul dPatt_lowered_4 ?_
  refine ex_ishl dPatt_lowered_5 ?_
  rw [pk_mul, nb_shl (a := 7) (by omega) (by have := pfield_lt hc; rw [pfield, Nat.shiftLeft_eq] at this; omega)]
  refine ex_istore_n (L' := [_, _, _]) dPatt_lowered_6 (by decide) rfl ?_
  refine ex_iload_n dPatt_lowered_7 rfl ?_
  refine ex_iload_n dPatt_lowered_8 rfl ?_
  refine ex_iconst (v := -1) dPatt_lowered_9 (by decide) ?_
  refine ex_ixor dPatt_lowered_10 ?_
  refine ex_iand dPatt_lowered_11 ?_
  refine ex_iload_n dPatt_lowered_12 rfl ?_
  refine ex_iload_n dPatt_lowered_13 rfl ?_
  refine ex_iand dPatt_lowered_14 ?_
  refine ex_iconst (v := nI 1) dPatt_lowered_15 (by decide) ?_
  refine ex_ishr dPatt_lowered_16 ?_
  refine ex_ior dPatt_lowered_17 ?_
  rw [nb_clr, nb_and, nb_shr (k := 1) (by omega) (Nat.lt_of_lt_of_le (and_ltl hb) (by decide)), nb_or]
  exact ex_iret dPatt_lowered_18 rfl (Nat.le_refl _) (Nat.le_refl _) ⟨rfl, rfl⟩
theorem c_Patt_skipStarred {s : Nat} (hs : s < 2 ^ 25) (H : Pt h a fl sz hv st ss ls) : xMet l G mPatt_skipStarred d 0 0 [.ref a, .int (nI s)] h (fun o h' => o = .inl (some (.int (nI (pskip st s)))) ∧ h' = h) := by
  obtain ⟨f, g, h1, h2, h3, h4, h5, h6, h7, h8, h9, h10⟩ := H
  have hs1 := pskip1_lt h7 hs
  refine xMet_of (L := [_, _, _, _]) (by decide) (Nat.le_of_ble_eq_true rfl) rfl ?_
  refine ex_iload_n dPatt_skipStarred_0 rfl ?_
  refine ex_istore_n (L' := [_, _, _, _]) dPatt_skipStarred_1 (by decide) rfl ?_
  refine ex_iconst (v := nI 0) dPatt_skipStarred_2 (by decide) ?_
  refine ex_istore_n (L' := [_, _, _, _]) dPatt_skipStarred_3 (by decide) rfl ?_
  refine ex_iload_n dPatt_skipStarred_4 rfl ?_
  refine ex_iconst (v := nI 2) dPatt_skipStarred_5 (by decide) ?_
  refine ex_icmp_ge (tgt := 26) dPatt_skipStarred_6 (by decide) (fun hc => ?_) (fun hc => ?_)
  · exact absurd hc (by decide)
  refine ex_iload_n dPatt_skipStarred_9 rfl ?_
  refine ex_iload_n dPatt_skipStarred_10 rfl ?_
  refine ex_aload_n dPatt_skipStarred_11 rfl ?_
  refine ex_get dPatt_skipStarred_12 fg_Patt_41 h1 rfl ?_
  refine ex_iand dPatt_skipStarred_15 ?_
  refine ex_iconst (v := nI 1) dPatt_skipStarred_16 (by decide) ?_
  refine ex_ishl dPatt_skipStarred_17 ?_
  refine ex_ior dPatt_skipStarred_18 ?_
  rw [nb_and, nb_shl (k := 1) (by omega) (by have := @and_ltr s st 24 h7; omega), nb_or]
  refine ex_istore_n (L' := [_, _, _, _]) dPatt_skipStarred_19 (by decide) rfl ?_
  refine ex_iinc (L' := [_, _, _, _]) dPatt_skipStarred_20 rfl rfl (by decide) rfl ?_
  refine ex_goto (tgt := 4) dPatt_skipStarred_23 (by decide) ?_
  refine ex_iload_n dPatt_skipStarred_4 rfl ?_
  refine ex_iconst (v := nI 2) dPatt_skipStarred_5 (by decide) ?_
  refine ex_icmp_ge (tgt := 26) dPatt_skipStarred_6 (by decide) (fun hc => ?_) (fun hc => ?_)
  · exact absurd hc (by decide)
  refine ex_iload_n dPatt_skipStarred_9 rfl ?_
  refine ex_iload_n dPatt_skipStarred_10 rfl ?_
  refine ex_aload_n dPatt_skipStarred_11 rfl ?_
  refine ex_get dPatt_skipStarred_12 fg_Patt_41 h1 rfl ?_
  refine ex_iand dPatt_skipStarred_15 ?_
  refine ex_iconst (v := nI 1) dPatt_skipStarred_16 (by decide) ?_
  refine ex_ishl dPatt_skipStarred_17 ?_
  refine ex_ior dPatt_skipStarred_18 ?_
  rw [show s ||| (s &&& st) <<< 1 = pskip1 st s from rfl, nb_and, nb_shl (k := 1) (by omega) (by have := @and_ltr (pskip1 st s) st 24 h7; omega), nb_or]
  refine ex_istore_n (L' := [_, _, _, _]) dPatt_skipStarred_19 (by decide) rfl ?_
  refine ex_iinc (L' := [_, _, _, _]) dPatt_skipStarred_20 rfl rfl (by decide) rfl ?_
  refine ex_goto (tgt := 4) dPatt_skipStarred_23 (by decide) ?_
  refine ex_iload_n dPatt_skipStarred_4 rfl ?_
  refine ex_iconst (v := nI 2) dPatt_skipStarred_5 (by decide) ?_
  refine ex_icmp_ge (tgt := 26) dPatt_skipStarred_6 (by decide) (fun hc => ?_) (fun hc => ?_)
  · refine ex_iload_n dPatt_skipStarred_26 rfl ?_
    exact ex_iret dPatt_skipStarred_27 rfl (Nat.le_refl _) (Nat.le_refl _) ⟨rfl, rfl⟩
  · exact absurd (by decide) hc
theorem c_Patt_first (H : Pt h a fl sz hv st ss ls) : xMet l G mPatt_first (d + 1) 0 0 [.ref a] h (fun o h' => o = .inl (some (.int (nI (pskip st ss)))) ∧ h' = h) := by
  have H0 := H
  obtain ⟨f, g, h1, h2, h3, h4, h5, h6, h7, h8, h9, h10⟩ := H
  refine xMet_of (L := [_]) (by decide) (Nat.le_of_ble_eq_true rfl) rfl ?_
  refine ex_aload_n dPatt_first_0 rfl ?_
  refine ex_aload_n dPatt_first_1 rfl ?_
  refine ex_get dPatt_first_2 fg_Patt_22 h1 rfl ?_
  refine ex_p1 dPatt_first_5 ip_Patt_44 cd_Patt_skipStarred ar_Patt_skipStarred h1 (c_Patt_skipStarred (d := d) (s := ss) (by omega) H0) (by dsimp only; omega) (Nat.le_of_ble_eq_true rfl) (Nat.le_refl _) (Nat.le_refl _) (fun E h9 q9 => by simp at q9) (fun v9 hp9 hq => ?_)
  obtain ⟨e, e2⟩ := hq
  cases e
  exact ex_iret dPatt_first_8 rfl (Nat.le_refl _) (Nat.le_refl _) ⟨rfl, e2⟩
theorem c_Patt_next {s i : Nat} (hi : i < 10) (H : Pt h a fl sz hv st ss ls) : xMet l G mPatt_next (d + 1) 0 0 [.ref a, .int (nI s), .int (nI i)] h (fun o h' => o = .inl (some (.int (nI (pnext (hv i) st ls s)))) ∧ h' = h) := by
  have H0 := H
  obtain ⟨f, g, h1, h2, h3, h4, h5, h6, h7, h8, h9, h10⟩ := H
  have hvi := h6 i hi
  refine xMet_of (L := [_, _, _, _, _]) (by decide) (Nat.le_of_ble_eq_true rfl) rfl ?_
  refine ex_iload_n dPatt_next_0 rfl ?_
  refine ex_aload_n dPatt_next_1 rfl ?_
  refine ex_get dPatt_next_2 fg_Patt_15 h1 rfl ?_
  refine ex_iload_n dPatt_next_5 rfl ?_
  refine ex_iaload dPatt_next_6 h3 rfl hi (by omega) ?_
  refine ex_iand dPatt_next_7 ?_
  rw [h5 i hi, nb_and]
  refine ex_istore_n (L' := [_, _, _, _, _]) dPatt_next_8 (by decide) rfl ?_
  refine ex_iload_n dPatt_next_9 rfl ?_
  refine ex_aload_n dPatt_next_10 rfl ?_
  refine ex_get dPatt_next_11 fg_Patt_41 h1 rfl ?_
  refine ex_iand dPatt_next_14 ?_
  refine ex_iload_n dPatt_next_15 rfl ?_
  refine ex_aload_n dPatt_next_16 rfl ?_
  refine ex_get dPatt_next_17 fg_Patt_41 h1 rfl ?_
  refine ex_iconst (v := -1) dPatt_next_20 (by decide) ?_
  refine ex_ixor dPatt_next_21 ?_
  refine ex_iand dPatt_next_22 ?_
  refine ex_iconst (v := nI 1) dPatt_next_23 (by decide) ?_
  refine ex_ishl dPatt_next_24 ?_
  refine ex_ior dPatt_next_25 ?_
  rw [nb_and, nb_clr, nb_shl (k := 1) (by omega) (by have := @clr_lt (s &&& hv i) st 24 (and_ltr hvi); omega), nb_or]
  refine ex_istore (L' := [_, _, _, _, _]) dPatt_next_26 (by decide) rfl ?_
  refine ex_aload_n dPatt_next_28 rfl ?_
  refine ex_iload dPatt_next_29 rfl ?_
  refine ex_aload_n dPatt_next_31 rfl ?_
  refine ex_get dPatt_next_32 fg_Patt_30 h1 rfl ?_
  refine ex_ior dPatt_next_35 ?_
  rw [nb_or]
  refine ex_p1 dPatt_next_36 ip_Patt_44 cd_Patt_skipStarred ar_Patt_skipStarred h1 (c_Patt_skipStarred (d := d) (pnext_in hvi h9) H0) (by dsimp only; omega) (Nat.le_of_ble_eq_true rfl) (Nat.le_refl _) (Nat.le_refl _) (fun E h9 q9 => by simp at q9) (fun v9 hp9 hq => ?_)
  obtain ⟨e, e2⟩ := hq
  cases e
  exact ex_iret dPatt_next_39 rfl (Nat.le_refl _) (Nat.le_refl _) ⟨rfl, e2⟩
theorem c_Patt_elementsOf {c : Nat} (hc : c < 8) (H : Pt h a fl sz hv st ss ls) : xMet l G mPatt_elementsOf d 0 0 [.ref a, .int (nI c)] h (fun o h' => o = .inl (some (.int (nI (sz c)))) ∧ h' = h) := by
  obtain ⟨f, g, h1, h2, h3, h4, h5, h6, h7, h8, h9, h10⟩ := H
  refine xMet_of (L := [_, _]) (by decide) (Nat.le_of_ble_eq_true rfl) rfl ?_
  refine ex_aload_n dPatt_elementsOf_0 rfl ?_
  refine ex_get dPatt_elementsOf_1 fg_Patt_11 h1 rfl ?_
  refine ex_iload_n dPatt_elementsOf_4 rfl ?_
  refine ex_iaload dPatt_elementsOf_5 h2 rfl hc (by omega) ?_
  exact ex_iret dPatt_elementsOf_6 rfl (Nat.le_refl _) (Nat.le_refl _) ⟨by rw [h4 c hc], rfl⟩
theorem c_Patt_open {c : Nat} {t : Bool} (hc : c < 8) (H : Pt h a fl sz hv st ss ls) : xMet l G mPatt_open (d + 1) 0 0 [.ref a, .int (nI c), .int (bI t)] h (fun o h' => o = .inl none ∧ Pt h' a fl sz hv st (ss ||| pgoal c) (if t then ls else ls ||| pgoal c) ∧ Sm h h' a (a + 3)) := by
  have H0 := H
  obtain ⟨f, g, h1, h2, h3, h4, h5, h6, h7, h8, h9, h10⟩ := H
  have hg := pgoal_lt hc
  have b1 : ss ||| pgoal c < 2 ^ 24 := Nat.or_lt_two_pow h8 hg
  have b2 : ls ||| pgoal c < 2 ^ 24 := Nat.or_lt_two_pow h9 hg
  obtain ⟨P1, S1⟩ := H0.obj h7 b1 h9
  obtain ⟨P2, S2⟩ := P1.obj h7 b1 b2
  refine xMet_of (L := [_, _, _]) (by decide) (Nat.le_of_ble_eq_true rfl) rfl ?_
  refine ex_aload_n dPatt_open_0 rfl ?_
  refine ex_dup dPatt_open_1 rfl ?_
  refine ex_get dPatt_open_2 fg_Patt_22 h1 rfl ?_
  refine ex_iload_n dPatt_open_5 rfl ?_
  refine ex_s1 dPatt_open_6 is_Patt_26 cd_Patt_goalOf ar_Patt_goalOf (c_Patt_goalOf (d := d) hc) (by dsimp only; omega) (Nat.le_of_ble_eq_true rfl) (Nat.le_refl _) (Nat.le_refl _) (fun E h9 q9 => by simp at q9) (fun v9 hp9 hq => ?_)
  obtain ⟨e, e2⟩ := hq
  cases e
  rw [e2]
  refine ex_ior dPatt_open_9 ?_
  rw [nb_or]
  refine ex_put (fs' := [_, _, _, _, _, _]) dPatt_open_10 (fp_Patt_22 _) h1 rfl rfl (Nat.le_of_ble_eq_true rfl) rfl ?_
  refine ex_iload_n dPatt_open_13 rfl ?_
  refine ex_if_ne (tgt := 30) dPatt_open_14 (by decide) (fun hc2 => ?_) (fun hc2 => ?_)
  · have ht : t = true := by cases t; exact absurd rfl hc2; rfl
    subst ht
    exact ex_vret dPatt_open_30 rfl (Nat.le_refl _) (Nat.le_refl _) ⟨rfl, P1, S1⟩
  have ht : t = false := bI_0.mp hc2
  subst ht
  refine ex_aload_n dPatt_open_17 rfl ?_
  refine ex_dup dPatt_open_18 rfl ?_
  refine ex_get dPatt_open_19 fg_Patt_30 (xup_self _ _ _) rfl ?_
  refine ex_iload_n dPatt_open_22 rfl ?_
  refine ex_s1 dPatt_open_23 is_Patt_26 cd_Patt_goalOf ar_Patt_goalOf (c_Patt_goalOf (d := d) hc) (by dsimp only; omega) (Nat.le_of_ble_eq_true rfl) (Nat.le_refl _) (Nat.le_refl _) (fun E h9 q9 => by simp at q9) (fun v9 hp9 hq => ?_)
  obtain ⟨e, e2⟩ := hq
  cases e
  rw [e2]
  refine ex_ior dPatt_open_26 ?_
  rw [nb_or]
  refine ex_put (fs' := [_, _, _, _, _, _]) dPatt_open_27 (fp_Patt_30 _) (xup_self _ _ _) rfl rfl (Nat.le_of_ble_eq_true rfl) rfl ?_
  exact ex_vret dPatt_open_30 rfl (Nat.le_refl _) (Nat.le_refl _) ⟨rfl, P2, S1.trans S2⟩
theorem c_Patt_lowerElements {c : Nat} (hc : c < 8) (H : Pt h a fl sz hv st ss ls) : xMet l G mPatt_lowerElements (d + 1) 0 0 [.ref a, .int (nI c)] h (fun o h' => o = .inl none ∧ Pt h' a fl sz (fun j => plow (hv j) c) (plow st c) ss ls ∧ Sm h h' a (a + 3)) := by
  have H0 := H
  obtain ⟨f, g, h1, h2, h3, h4, h5, h6, h7, h8, h9, h10⟩ := H
  have loop : ∀ (j i : Nat) (hi : xH), i + j = 10 → Pt hi a fl sz (fun q => if q < i then plow (hv q) c else hv q) (plow st c) ss ls → Sm h hi a (a + 3) → Ex (l, G, d + 1, 0, 0, h, fun o h' => o = .inl none ∧ Pt h' a fl sz (fun j => plow (hv j) c) (plow st c) ss ls ∧ Sm h h' a (a + 3)) mPatt_lowerElements 14 [some (.ref a), some (.int (nI c)), some (.int (nI i))] [] hi 0 0 := by
    intro j
    induction j with
    | zero =>
      intro i hi hij HP hS
      have e : i = 10 := by omega
      subst e
      refine ex_iload_n dPatt_lowerElements_14 rfl ?_
      refine ex_bipush (v := nI 10) dPatt_lowerElements_15 (by decide) ?_
      refine ex_icmp_ge (tgt := 42) dPatt_lowerElements_17 (by decide) (fun hc9 => ?_) (fun hc9 => ?_)
      · refine ex_vret dPatt_lowerElements_42 rfl (Nat.le_refl _) (Nat.le_refl _) ⟨rfl, ?_, hS⟩
        obtain ⟨f, g, h1, h2, h3, h4, h5, h6, h7, h8, h9, h10⟩ := HP
        exact ⟨f, g, h1, h2, h3, h4, fun j hj => by rw [h5 j hj]; dsimp only; rw [if_pos hj], fun j hj => by have := h6 j hj; dsimp only at this ⊢; rw [if_pos hj] at this; exact this, h7, h8, h9, h10⟩
      · exact absurd (by decide) hc9
    | succ j ih =>
      intro i hi hij HP hS
      obtain ⟨f, g, h1, h2, h3, h4, h5, h6, h7, h8, h9, h10⟩ := HP
      refine ex_iload_n dPatt_lowerElements_14 rfl ?_
      refine ex_bipush (v := nI 10) dPatt_lowerElements_15 (by decide) ?_
      refine ex_icmp_ge (tgt := 42) dPatt_lowerElements_17 (by decide) (fun hc9 => ?_) (fun hc9 => ?_)
      · exact absurd hc9 (nI_ge (by omega) (by omega))
      refine ex_aload_n dPatt_lowerElements_20 rfl ?_
      refine ex_get dPatt_lowerElements_21 fg_Patt_15 h1 rfl ?_
      refine ex_iload_n dPatt_lowerElements_24 rfl ?_
      refine ex_aload_n dPatt_lowerElements_25 rfl ?_
      refine ex_get dPatt_lowerElements_26 fg_Patt_15 h1 rfl ?_
      refine ex_iload_n dPatt_lowerElements_29 rfl ?_
      refine ex_iaload dPatt_lowerElements_30 h3 rfl (by omega) (by omega) ?_
      refine ex_iload_n dPatt_lowerElements_31 rfl ?_
      have hgi := h5 i (by omega)
      have hbi := h6 i (by omega)
      dsimp only at hgi hbi
      rw [if_neg (Nat.lt_irrefl i)] at hgi hbi
      rw [hgi]
      refine ex_s2 dPatt_lowerElements_32 is_Patt_33 cd_Patt_lowered ar_Patt_lowered (c_Patt_lowered (d := d) hbi hc) (by dsimp only; omega) (Nat.le_of_ble_eq_true rfl) (Nat.le_refl _) (Nat.le_refl _) (fun E h9 q9 => by simp at q9) (fun v9 hp9 hq => ?_)
      obtain ⟨e, e2⟩ := hq
      cases e
      rw [e2]
      refine ex_iastore dPatt_lowerElements_35 h3 rfl (by omega) (by omega) ?_
      refine ex_iinc (L' := [_, _, _]) dPatt_lowerElements_36 rfl rfl (by decide) rfl ?_
      refine ex_goto (tgt := 14) dPatt_lowerElements_39 (by decide) ?_
      rw [show nI i + Int32.ofInt 1 = nI (i + 1) from nI_1 i]
      refine ih (i + 1) _ (by omega) ⟨f, upd g i (nI (plow (hv i) c)), by rw [xup_ne _ _ (by omega)]; exact h1, by rw [xup_ne _ _ (by omega)]; exact h2, xup_self _ _ _, h4, fun q hq9 => ?_, fun q hq9 => ?_, h7, h8, h9, h10⟩ (hS.trans (Sm.up (by omega) (by omega)))
      · by_cases e : q = i
        · subst e; rw [pk_us]; dsimp only; rw [if_pos (by omega)]
        · rw [pk_un e, h5 q hq9]; congr 1; dsimp only
          by_cases hlt : q < i
          · rw [if_pos hlt, if_pos (by omega)]
          · rw [if_neg hlt, if_neg (by omega)]
      · have h6q := h6 q hq9
        dsimp only at h6q ⊢
        split
        · by_cases e : q = i
          · subst e; exact plow_lt hbi
          · rw [if_pos (by omega)] at h6q; exact h6q
        · rw [if_neg (by omega)] at h6q; exact h6q
  refine xMet_of (L := [_, _, _]) (by decide) (Nat.le_of_ble_eq_true rfl) rfl ?_
  refine ex_aload_n dPatt_lowerElements_0 rfl ?_
  refine ex_aload_n dPatt_lowerElements_1 rfl ?_
  refine ex_get dPatt_lowerElements_2 fg_Patt_41 h1 rfl ?_
  refine ex_iload_n dPatt_lowerElements_5 rfl ?_
  refine ex_s2 dPatt_lowerElements_6 is_Patt_33 cd_Patt_lowered ar_Patt_lowered (c_Patt_lowered (d := d) h7 hc) (by dsimp only; omega) (Nat.le_of_ble_eq_true rfl) (Nat.le_refl _) (Nat.le_refl _) (fun E h9 q9 => by simp at q9) (fun v9 hp9 hq => ?_)
  obtain ⟨e, e2⟩ := hq
  cases e
  rw [e2]
  refine ex_put (fs' := [_, _, _, _, _, _]) dPatt_lowerElements_9 (fp_Patt_41 _) h1 rfl rfl (Nat.le_of_ble_eq_true rfl) rfl ?_
  refine ex_iconst (v := nI 0) dPatt_lowerElements_12 (by decide) ?_
  refine ex_istore_n (L' := [_, _, _]) dPatt_lowerElements_13 (by decide) rfl ?_
  obtain ⟨P1, S1⟩ := H0.obj (plow_lt (c := c) h7) h8 h9
  refine loop 10 0 _ (by omega) ?_ S1
  obtain ⟨f, g, h1, h2, h3, h4, h5, h6, h7⟩ := P1
  exact ⟨f, g, h1, h2, h3, h4, fun j hj => by rw [h5 j hj]; dsimp only; rw [if_neg (Nat.not_lt_zero j)], fun j hj => by dsimp only; rw [if_neg (Nat.not_lt_zero j)]; exact h6 j hj, h7⟩
theorem c_Patt_init (hz : h.1 = a + 1) (h1 : h.2 a = some (.inr (2, [.int 0, .null, .null, .int 0, .int 0, .int 0]))) : xMet l G mPatt_init d 2 18 [.ref a, .int (bI fl)] h (fun o h' => o = .inl none ∧ Pt h' a fl (fun _ => 0) (fun _ => 0) 0 0 0 ∧ h'.1 = a + 3 ∧ ∀ q : Nat, (q < a ∨ a + 3 ≤ q) → h'.2 q = h.2 q) := by
  refine xMet_of (L := [_, _]) (by decide) (Nat.le_of_ble_eq_true rfl) rfl ?_
  refine ex_aload_n dPatt_init_0 rfl ?_
  refine ex_objInit dPatt_init_1 oi_Patt_5 oi_1 oi_2 (by decide) ?_
  refine ex_aload_n dPatt_init_4 rfl ?_
  refine ex_bipush (v := nI 8) dPatt_init_5 (by decide) ?_
  refine ex_newi dPatt_init_7 aw_int rfl (by omega) (Nat.le_of_ble_eq_true rfl) (Nat.le_of_ble_eq_true rfl) ?_
  rw [hz]
  have e1 : (xnew h (cI 8 (fun _ => 0))).2 a = some (.inr (2, [.int 0, .null, .null, .int 0, .int 0, .int 0])) := by simp [xnew, hz, h1]
  refine ex_put (fs' := [_, _, _, _, _, _]) dPatt_init_9 fp_Patt_11 e1 rfl rfl (Nat.le_of_ble_eq_true rfl) rfl ?_
  refine ex_aload_n dPatt_init_12 rfl ?_
  refine ex_bipush (v := nI 10) dPatt_init_13 (by decide) ?_
  refine ex_newi dPatt_init_15 aw_int rfl (by omega) (Nat.le_of_ble_eq_true rfl) (Nat.le_of_ble_eq_true rfl) ?_
  have hz2 : (xup (xnew h (cI 8 (fun _ => 0))) a (.inr (2, [.int 0, .ref (a + 1), .null, .int 0, .int 0, .int 0]))).1 = a + 2 := by simp [xup, xnew, hz]
  rw [hz2]
  have e2 : (xnew (xup (xnew h (cI 8 (fun _ => 0))) a (.inr (2, [.int 0, .ref (a + 1), .null, .int 0, .int 0, .int 0]))) (cI 10 (fun _ => 0))).2 a = some (.inr (2, [.int 0, .ref (a + 1), .null, .int 0, .int 0, .int 0])) := by simp [xnew, xup, hz]; omega
  refine ex_put (fs' := [_, _, _, _, _, _]) dPatt_init_17 fp_Patt_15 e2 rfl rfl (Nat.le_of_ble_eq_true rfl) rfl ?_
  refine ex_aload_n dPatt_init_20 rfl ?_
  refine ex_iload_n dPatt_init_21 rfl ?_
  refine ex_put (fs' := [_, _, _, _, _, _]) dPatt_init_22 fp_Patt_18 (xup_self _ _ _) (bI_nar _) (bI_fits _) (Nat.le_of_ble_eq_true rfl) rfl ?_
  refine ex_vret dPatt_init_25 rfl (Nat.le_of_ble_eq_true rfl) (Nat.le_of_ble_eq_true rfl) ⟨rfl, ⟨fun _ => 0, fun _ => 0, ?_, ?_, ?_, fun _ _ => rfl, fun _ _ => rfl, fun _ _ => Nat.two_pow_pos 24, by decide, by decide, by decide, fun _ _ => Nat.zero_le 2⟩, ?_, fun q hq => ?_⟩
  · rw [xup_self]; rfl
  · simp [xnew, xup, hz]
  · simp [xnew, xup, hz]
  · simp [xup, xnew, hz]
  · simp [xup, xnew, hz, show q ≠ a by omega, show q ≠ a + 1 by omega, show q ≠ a + 2 by omega]
end PATT
