/-! Pairs. Prs h a ps: at a the object, its arrays at a + 1 and a + 2. -/
abbrev cPairs (a c : Nat) : xE := .inr (1, [.ref (a + 1), .ref (a + 2), .int (nI c)])
def Prs (h : xH) (a : Nat) (ps : List (Nat × Nat)) : Prop := ∃ f g : Nat → Int32, h.2 a = some (cPairs a ps.length) ∧ h.2 (a + 1) = some (cI 10 f) ∧ h.2 (a + 2) = some (cI 10 g) ∧ ps.length ≤ 10 ∧ (∀ j, j < ps.length → f j = nI (ps.getD j (0, 0)).1) ∧ (∀ j, j < ps.length → g j = nI (ps.getD j (0, 0)).2) ∧ ∀ q ∈ ps, q.1 < 8 ∧ q.2 < 8
theorem Prs.sm {h h' : xH} {a lo hi : Nat} {ps : List (Nat × Nat)} (H : Prs h a ps) (hs : Sm h h' lo hi) (hd : a + 3 ≤ lo ∨ hi ≤ a) : Prs h' a ps := by
  obtain ⟨f, g, h1, h2, h3, h4⟩ := H
  exact ⟨f, g, by rw [hs.2 a (by omega)]; exact h1, by rw [hs.2 (a + 1) (by omega)]; exact h2, by rw [hs.2 (a + 2) (by omega)]; exact h3, h4⟩
theorem getD_mem {α : Type} {l : List α} {j : Nat} {d : α} (h : j < l.length) : l.getD j d ∈ l := by
  rw [List.getD_eq_getElem?_getD, List.getElem?_eq_getElem h]; exact List.getElem_mem h
theorem take_snoc {α : Type} {l : List α} {j : Nat} (d : α) (h : j < l.length) : l.take (j + 1) = l.take j ++ [l.getD j d] := by
  rw [List.take_succ, List.getD_eq_getElem?_getD, List.getElem?_eq_getElem h]; rfl
section PAIRS
variable {l : Launch} {G : xG} {d : Nat} {h : xH} {a : Nat} {ps : List (Nat × Nat)}
theorem c_Pairs_count (H : Prs h a ps) : xMet l G mPairs_count d 0 0 [.ref a] h (fun o h' => o = .inl (some (.int (nI ps.length))) ∧ h' = h) := by
  obtain ⟨f, g, h1, h2, h3, h4, h5, h6, h7⟩ := H
  refine xMet_of (L := [_]) (by decide) (Nat.le_of_ble_eq_true rfl) rfl ?_
  refine ex_aload_n dPairs_count_0 rfl ?_
  refine ex_get dPairs_count_1 fg_Pairs_18 h1 rfl ?_
  exact ex_iret dPairs_count_4 rfl (Nat.le_refl _) (Nat.le_refl _) ⟨rfl, rfl⟩
theorem c_Pairs_lowerOf {i : Nat} (hi : i < ps.length) (H : Prs h a ps) : xMet l G mPairs_lowerOf d 0 0 [.ref a, .int (nI i)] h (fun o h' => o = .inl (some (.int (nI (ps.getD i (0, 0)).1))) ∧ h' = h) := by
  obtain ⟨f, g, h1, h2, h3, h4, h5, h6, h7⟩ := H
  refine xMet_of (L := [_, _]) (by decide) (Nat.le_of_ble_eq_true rfl) rfl ?_
  refine ex_aload_n dPairs_lowerOf_0 rfl ?_
  refine ex_get dPairs_lowerOf_1 fg_Pairs_9 h1 rfl ?_
  refine ex_iload_n dPairs_lowerOf_4 rfl ?_
  refine ex_iaload dPairs_lowerOf_5 h2 rfl (by omega) (by omega) ?_
  exact ex_iret dPairs_lowerOf_6 rfl (Nat.le_refl _) (Nat.le_refl _) ⟨by rw [h5 i hi], rfl⟩
theorem c_Pairs_upperOf {i : Nat} (hi : i < ps.length) (H : Prs h a ps) : xMet l G mPairs_upperOf d 0 0 [.ref a, .int (nI i)] h (fun o h' => o = .inl (some (.int (nI (ps.getD i (0, 0)).2))) ∧ h' = h) := by
  obtain ⟨f, g, h1, h2, h3, h4, h5, h6, h7⟩ := H
  refine xMet_of (L := [_, _]) (by decide) (Nat.le_of_ble_eq_true rfl) rfl ?_
  refine ex_aload_n dPairs_upperOf_0 rfl ?_
  refine ex_get dPairs_upperOf_1 fg_Pairs_15 h1 rfl ?_
  refine ex_iload_n dPairs_upperOf_4 rfl ?_
  refine ex_iaload dPairs_upperOf_5 h3 rfl (by omega) (by omega) ?_
  exact ex_iret dPairs_upperOf_6 rfl (Nat.le_refl _) (Nat.le_refl _) ⟨by rw [h6 i hi], rfl⟩
theorem c_Pairs_has {x y : Nat} (hx : x < 8) (hy : y < 8) (H : Prs h a ps) : xMet l G mPairs_has d 0 0 [.ref a, .int (nI x), .int (nI y)] h (fun o h' => o = .inl (some (.int (if (x, y) ∈ ps then 1 else 0))) ∧ h' = h) := by
  obtain ⟨f, g, h1, h2, h3, h4, h5, h6, h7⟩ := H
  have loop : ∀ (j i : Nat), i + j = ps.length → (x, y) ∉ ps.take i → Ex (l, G, d, 0, 0, h, fun o h' => o = .inl (some (.int (if (x, y) ∈ ps then 1 else 0))) ∧ h' = h) mPairs_has 2 [some (.ref a), some (.int (nI x)), some (.int (nI y)), some (.int (nI i))] [] h 0 0 := by
    intro j
    induction j with
    | zero =>
      intro i hij hno
      refine ex_iload_n dPairs_has_2 rfl ?_
      refine ex_aload_n dPairs_has_3 rfl ?_
      refine ex_get dPairs_has_4 fg_Pairs_18 h1 rfl ?_
      refine ex_icmp_ge (tgt := 38) dPairs_has_7 (by decide) (fun hc => ?_) (fun hc => ?_)
      · rw [show ps.take i = ps from List.take_of_length_le (by omega)] at hno
        refine ex_iconst (v := nI 0) dPairs_has_38 (by decide) ?_
        exact ex_zret dPairs_has_39 rfl (by decide) (Nat.le_refl _) (Nat.le_refl _) ⟨by rw [if_neg hno]; rfl, rfl⟩
      · exact absurd (nI_le (by omega) (by omega)) hc
    | succ j ih =>
      intro i hij hno
      have hm : ps.getD i (0, 0) ∈ ps := getD_mem (by omega)
      have hr := h7 _ hm
      have next : ps.getD i (0, 0) ≠ (x, y) → Ex (l, G, d, 0, 0, h, fun o h' => o = .inl (some (.int (if (x, y) ∈ ps then 1 else 0))) ∧ h' = h) mPairs_has 32 [some (.ref a), some (.int (nI x)), some (.int (nI y)), some (.int (nI i))] [] h 0 0 := by
        intro hne
        refine ex_iinc (L' := [_, _, _, _]) dPairs_has_32 rfl rfl (by decide) rfl ?_
        refine ex_goto (tgt := 2) dPairs_has_35 (by decide) ?_
        rw [show nI i + Int32.ofInt 1 = nI (i + 1) from nI_1 i]
        refine ih (i + 1) (by omega) ?_
        rw [take_snoc (0, 0) (by omega), List.mem_append, List.mem_singleton]
        rintro (q | q)
        · exact hno q
        · exact hne q.symm
      refine ex_iload_n dPairs_has_2 rfl ?_
      refine ex_aload_n dPairs_has_3 rfl ?_
      refine ex_get dPairs_has_4 fg_Pairs_18 h1 rfl ?_
      refine ex_icmp_ge (tgt := 38) dPairs_has_7 (by decide) (fun hc => ?_) (fun hc => ?_)
      · exact absurd hc (nI_ge (by omega) (by omega))
      refine ex_aload_n dPairs_has_10 rfl ?_
      refine ex_get dPairs_has_11 fg_Pairs_9 h1 rfl ?_
      refine ex_iload_n dPairs_has_14 rfl ?_
      refine ex_iaload dPairs_has_15 h2 rfl (by omega) (by omega) ?_
      refine ex_iload_n dPairs_has_16 rfl ?_
      rw [h5 i (by omega)]
      refine ex_icmp_ne (tgt := 32) dPairs_has_17 (by decide) (fun hc2 => ?_) (fun hc2 => ?_)
      · refine next (fun q => hc2 ?_)
        rw [q]
      rw [nI_eq (by omega) (by omega)] at hc2
      refine ex_aload_n dPairs_has_20 rfl ?_
      refine ex_get dPairs_has_21 fg_Pairs_15 h1 rfl ?_
      refine ex_iload_n dPairs_has_24 rfl ?_
      refine ex_iaload dPairs_has_25 h3 rfl (by omega) (by omega) ?_
      refine ex_iload_n dPairs_has_26 rfl ?_
      rw [h6 i (by omega)]
      refine ex_icmp_ne (tgt := 32) dPairs_has_27 (by decide) (fun hc3 => ?_) (fun hc3 => ?_)
      · refine next (fun q => hc3 ?_)
        rw [q]
      rw [nI_eq (by omega) (by omega)] at hc3
      refine ex_iconst (v := nI 1) dPairs_has_30 (by decide) ?_
      exact ex_zret dPairs_has_31 rfl (by decide) (Nat.le_refl _) (Nat.le_refl _) ⟨by rw [if_pos (by have e : ps.getD i (0, 0) = (x, y) := Prod.ext hc2 hc3; rw [← e]; exact hm)]; rfl, rfl⟩
  refine xMet_of (L := [_, _, _, _]) (by decide) (Nat.le_of_ble_eq_true rfl) rfl ?_
  refine ex_iconst (v := nI 0) dPairs_has_0 (by decide) ?_
  refine ex_istore_n (L' := [_, _, _, _]) dPairs_has_1 (by decide) rfl ?_
  exact loop ps.length 0 (by omega) (by simp)
theorem c_Pairs_hasRoomFor {x : Nat} (hx : x < 8) (H : Prs h a ps) : xMet l G mPairs_hasRoomFor d 0 0 [.ref a, .int (nI x)] h (fun o h' => o = .inl (some (.int (if ps.length < 10 ∧ (ps.filter (fun q => q.1 == x)).length < (if x = 0 then 2 else 3) then 1 else 0))) ∧ h' = h) := by
  obtain ⟨f, g, h1, h2, h3, h4, h5, h6, h7⟩ := H
  have hfl : ∀ i, ((ps.take i).filter (fun q => q.1 == x)).length ≤ 10 := fun i => Nat.le_trans (List.length_filter_le _ _) (by rw [List.length_take]; omega)
  have last : ∀ c most : Nat, c = (ps.filter (fun q => q.1 == x)).length → most = (if x = 0 then 2 else 3) → Ex (l, G, d, 0, 0, h, fun o h' => o = .inl (some (.int (if ps.length < 10 ∧ (ps.filter (fun q => q.1 == x)).length < (if x = 0 then 2 else 3) then 1 else 0))) ∧ h' = h) mPairs_hasRoomFor 41 [some (.ref a), some (.int (nI x)), some (.int (nI c)), some (.int (nI most))] [] h 0 0 := by
    intro c most hcc hmost
    have hc10 : c ≤ 10 := by have := hfl ps.length; rw [List.take_length] at this; omega
    have hm3 : most ≤ 3 := by rw [hmost]; split <;> omega
    refine ex_aload_n dPairs_hasRoomFor_41 rfl ?_
    refine ex_get dPairs_hasRoomFor_42 fg_Pairs_18 h1 rfl ?_
    refine ex_bipush (v := nI 10) dPairs_hasRoomFor_45 (by decide) ?_
    refine ex_icmp_ge (tgt := 59) dPairs_hasRoomFor_47 (by decide) (fun hc => ?_) (fun hc => ?_)
    · rw [nI_leI (by omega) (by omega)] at hc
      refine ex_iconst (v := nI 0) dPairs_hasRoomFor_59 (by decide) ?_
      exact ex_zret dPairs_hasRoomFor_60 rfl (by decide) (Nat.le_refl _) (Nat.le_refl _) ⟨by rw [if_neg (by omega)]; rfl, rfl⟩
    · rw [nI_leI (by omega) (by omega)] at hc
      refine ex_iload_n dPairs_hasRoomFor_50 rfl ?_
      refine ex_iload_n dPairs_hasRoomFor_51 rfl ?_
      refine ex_icmp_ge (tgt := 59) dPairs_hasRoomFor_52 (by decide) (fun hc2 => ?_) (fun hc2 => ?_)
      · rw [nI_leI (by omega) (by omega)] at hc2
        refine ex_iconst (v := nI 0) dPairs_hasRoomFor_59 (by decide) ?_
        exact ex_zret dPairs_hasRoomFor_60 rfl (by decide) (Nat.le_refl _) (Nat.le_refl _) ⟨by rw [← hcc, ← hmost, if_neg (by omega)]; rfl, rfl⟩
      · rw [nI_leI (by omega) (by omega)] at hc2
        refine ex_iconst (v := nI 1) dPairs_hasRoomFor_55 (by decide) ?_
        refine ex_goto (tgt := 60) dPairs_hasRoomFor_56 (by decide) ?_
        exact ex_zret dPairs_hasRoomFor_60 rfl (by decide) (Nat.le_refl _) (Nat.le_refl _) ⟨by rw [← hcc, ← hmost, if_pos (by omega)]; rfl, rfl⟩
  have loop : ∀ (j i : Nat), i + j = ps.length → Ex (l, G, d, 0, 0, h, fun o h' => o = .inl (some (.int (if ps.length < 10 ∧ (ps.filter (fun q => q.1 == x)).length < (if x = 0 then 2 else 3) then 1 else 0))) ∧ h' = h) mPairs_hasRoomFor 4 [some (.ref a), some (.int (nI x)), some (.int (nI ((ps.take i).filter (fun q => q.1 == x)).length)), some (.int (nI i))] [] h 0 0 := by
    intro j
    induction j with
    | zero =>
      intro i hij
      refine ex_iload_n dPairs_hasRoomFor_4 rfl ?_
      refine ex_aload_n dPairs_hasRoomFor_5 rfl ?_
      refine ex_get dPairs_hasRoomFor_6 fg_Pairs_18 h1 rfl ?_
      refine ex_icmp_ge (tgt := 31) dPairs_hasRoomFor_9 (by decide) (fun hc => ?_) (fun hc => ?_)
      · rw [show ps.take i = ps from List.take_of_length_le (by omega)]
        refine ex_iload_n dPairs_hasRoomFor_31 rfl ?_
        refine ex_if_ne (tgt := 39) dPairs_hasRoomFor_32 (by decide) (fun hc2 => ?_) (fun hc2 => ?_)
        · refine ex_iconst (v := nI 3) dPairs_hasRoomFor_39 (by decide) ?_
          refine ex_istore_n (L' := [_, _, _, _]) dPairs_hasRoomFor_40 (by decide) rfl ?_
          refine last _ 3 rfl (by rw [if_neg (fun q => hc2 (by rw [q]; rfl))])
        · refine ex_iconst (v := nI 2) dPairs_hasRoomFor_35 (by decide) ?_
          refine ex_goto (tgt := 40) dPairs_hasRoomFor_36 (by decide) ?_
          refine ex_istore_n (L' := [_, _, _, _]) dPairs_hasRoomFor_40 (by decide) rfl ?_
          refine last _ 2 rfl (by rw [if_pos ((nI_eq (b := 0) (by omega) (by omega)).mp hc2)])
      · exact absurd (nI_le (by omega) (by omega)) hc
    | succ j ih =>
      intro i hij
      have hm : ps.getD i (0, 0) ∈ ps := getD_mem (by omega)
      have hr := h7 _ hm
      have ih' := ih (i + 1) (by omega)
      rw [take_snoc (0, 0) (by omega), List.filter_append, List.length_append] at ih'
      refine ex_iload_n dPairs_hasRoomFor_4 rfl ?_
      refine ex_aload_n dPairs_hasRoomFor_5 rfl ?_
      refine ex_get dPairs_hasRoomFor_6 fg_Pairs_18 h1 rfl ?_
      refine ex_icmp_ge (tgt := 31) dPairs_hasRoomFor_9 (by decide) (fun hc => ?_) (fun hc => ?_)
      · exact absurd hc (nI_ge (by omega) (by omega))
      refine ex_aload_n dPairs_hasRoomFor_12 rfl ?_
      refine ex_get dPairs_hasRoomFor_13 fg_Pairs_9 h1 rfl ?_
      refine ex_iload_n dPairs_hasRoomFor_16 rfl ?_
      refine ex_iaload dPairs_hasRoomFor_17 h2 rfl (by omega) (by omega) ?_
      refine ex_iload_n dPairs_hasRoomFor_18 rfl ?_
      rw [h5 i (by omega)]
      refine ex_icmp_ne (tgt := 25) dPairs_hasRoomFor_19 (by decide) (fun hc2 => ?_) (fun hc2 => ?_)
      · have hne : ¬ (ps.getD i (0, 0)).1 = x := fun q => hc2 (by rw [q])
        refine ex_iinc (L' := [_, _, _, _]) dPairs_hasRoomFor_25 rfl rfl (by decide) rfl ?_
        refine ex_goto (tgt := 4) dPairs_hasRoomFor_28 (by decide) ?_
        rw [show nI i + Int32.ofInt 1 = nI (i + 1) from nI_1 i]
        rw [List.filter_cons_of_neg (by simpa using hne)] at ih'
        exact ih'
      · have he : (ps.getD i (0, 0)).1 = x := (nI_eq (by omega) (by omega)).mp hc2
        refine ex_iinc (L' := [_, _, _, _]) dPairs_hasRoomFor_22 rfl rfl (by decide) rfl ?_
        refine ex_iinc (L' := [_, _, _, _]) dPairs_hasRoomFor_25 rfl rfl (by decide) rfl ?_
        refine ex_goto (tgt := 4) dPairs_hasRoomFor_28 (by decide) ?_
        rw [show nI i + Int32.ofInt 1 = nI (i + 1) from nI_1 i, show nI ((ps.take i).filter (fun q => q.1 == x)).length + Int32.ofInt 1 = nI (((ps.take i).filter (fun q => q.1 == x)).length + 1) from nI_1 _]
        rw [List.filter_cons_of_pos (by simpa using he)] at ih'
        exact ih'
  refine xMet_of (L := [_, _, _, _]) (by decide) (Nat.le_of_ble_eq_true rfl) rfl ?_
  refine ex_iconst (v := nI 0) dPairs_hasRoomFor_0 (by decide) ?_
  refine ex_istore_n (L' := [_, _, _, _]) dPairs_hasRoomFor_1 (by decide) rfl ?_
  refine ex_iconst (v := nI 0) dPairs_hasRoomFor_2 (by decide) ?_
  refine ex_istore_n (L' := [_, _, _, _]) dPairs_hasRoomFor_3 (by decide) rfl ?_
  exact loop ps.length 0 (by omega)
theorem c_Pairs_add {x y : Nat} (hx : x < 8) (hy : y < 8) (hl : ps.length < 10) (H : Prs h a ps) : xMet l G mPairs_add d 0 0 [.ref a, .int (nI x), .int (nI y)] h (fun o h' => o = .inl (some (.int (nI ps.length))) ∧ Prs h' a (ps ++ [(x, y)]) ∧ Sm h h' a (a + 3)) := by
  obtain ⟨f, g, h1, h2, h3, h4, h5, h6, h7⟩ := H
  have e1 : (xup h (a + 1) (cI 10 (upd f ps.length (nI x)))).2 a = some (cPairs a ps.length) := by rw [xup_ne _ _ (by omega)]; exact h1
  have e2 : (xup h (a + 1) (cI 10 (upd f ps.length (nI x)))).2 (a + 2) = some (cI 10 g) := by rw [xup_ne _ _ (by omega)]; exact h3
  have e3 : (xup (xup h (a + 1) (cI 10 (upd f ps.length (nI x)))) (a + 2) (cI 10 (upd g ps.length (nI y)))).2 a = some (cPairs a ps.length) := by rw [xup_ne _ _ (by omega)]; exact e1
  refine xMet_of (L := [_, _, _]) (by decide) (Nat.le_of_ble_eq_true rfl) rfl ?_
  refine ex_aload_n dPairs_add_0 rfl ?_
  refine ex_get dPairs_add_1 fg_Pairs_9 h1 rfl ?_
  refine ex_aload_n dPairs_add_4 rfl ?_
  refine ex_get dPairs_add_5 fg_Pairs_18 h1 rfl ?_
  refine ex_iload_n dPairs_add_8 rfl ?_
  refine ex_iastore dPairs_add_9 h2 rfl hl (by omega) ?_
  refine ex_aload_n dPairs_add_10 rfl ?_
  refine ex_get dPairs_add_11 fg_Pairs_15 e1 rfl ?_
  refine ex_aload_n dPairs_add_14 rfl ?_
  refine ex_get dPairs_add_15 fg_Pairs_18 e1 rfl ?_
  refine ex_iload_n dPairs_add_18 rfl ?_
  refine ex_iastore dPairs_add_19 e2 rfl hl (by omega) ?_
  refine ex_aload_n dPairs_add_20 rfl ?_
  refine ex_dup dPairs_add_21 rfl ?_
  refine ex_get dPairs_add_22 fg_Pairs_18 e3 rfl ?_
  refine ex_iconst (v := nI 1) dPairs_add_25 (by decide) ?_
  refine ex_iadd dPairs_add_26 ?_
  rw [show nI ps.length + nI 1 = nI (ps.length + 1) from nI_add _ _]
  refine ex_put (fs' := [_, _, _]) dPairs_add_27 (fp_Pairs_18 _) e3 rfl rfl (Nat.le_of_ble_eq_true rfl) rfl ?_
  refine ex_aload_n dPairs_add_30 rfl ?_
  refine ex_get dPairs_add_31 fg_Pairs_18 (xup_self _ _ _) rfl ?_
  refine ex_iconst (v := nI 1) dPairs_add_34 (by decide) ?_
  refine ex_isub dPairs_add_35 ?_
  refine ex_iret dPairs_add_36 rfl (Nat.le_refl _) (Nat.le_refl _) ⟨by rw [show nI (ps.length + 1) - nI 1 = nI ps.length from by rw [pk_sub (by omega)]; rfl], ⟨upd f ps.length (nI x), upd g ps.length (nI y), ?_, ?_, ?_, by simp; omega, fun j hj => ?_, fun j hj => ?_, fun q hq => ?_⟩, ?_⟩
  · rw [xup_self]; simp
  · rw [xup_ne _ _ (by omega), xup_ne _ _ (by omega), xup_self]
  · rw [xup_ne _ _ (by omega), xup_self]
  · by_cases e : j = ps.length
    · subst e; rw [pk_us]; simp
    · have hj' : j < ps.length := by simp at hj; omega
      rw [pk_un e, h5 j hj']; simp [List.getElem?_append_left hj']
  · by_cases e : j = ps.length
    · subst e; rw [pk_us]; simp
    · have hj' : j < ps.length := by simp at hj; omega
      rw [pk_un e, h6 j hj']; simp [List.getElem?_append_left hj']
  · rcases List.mem_append.mp hq with q1 | q1
    · exact h7 q q1
    · rw [List.mem_singleton.mp q1]; exact ⟨hx, hy⟩
  · exact ((Sm.up (by omega) (by omega)).trans (Sm.up (by omega) (by omega))).trans (Sm.up (by omega) (by omega))
theorem c_Pairs_init (hz : h.1 = a + 1) (h1 : h.2 a = some (.inr (1, [.null, .null, .int 0]))) : xMet l G mPairs_init d 2 20 [.ref a] h (fun o h' => o = .inl none ∧ Prs h' a [] ∧ h'.1 = a + 3 ∧ ∀ q : Nat, (q < a ∨ a + 3 ≤ q) → h'.2 q = h.2 q) := by
  refine xMet_of (L := [_]) (by decide) (Nat.le_of_ble_eq_true rfl) rfl ?_
  refine ex_aload_n dPairs_init_0 rfl ?_
  refine ex_objInit dPairs_init_1 oi_Pairs_3 oi_1 oi_2 (by decide) ?_
  refine ex_aload_n dPairs_init_4 rfl ?_
  refine ex_bipush (v := nI 10) dPairs_init_5 (by decide) ?_
  refine ex_newi dPairs_init_7 aw_int rfl (by omega) (Nat.le_of_ble_eq_true rfl) (Nat.le_of_ble_eq_true rfl) ?_
  rw [hz]
  have e1 : (xnew h (cI 10 (fun _ => 0))).2 a = some (.inr (1, [.null, .null, .int 0])) := by simp [xnew, hz, h1]
  refine ex_put (fs' := [_, _, _]) dPairs_init_9 fp_Pairs_9 e1 rfl rfl (Nat.le_of_ble_eq_true rfl) rfl ?_
  refine ex_aload_n dPairs_init_12 rfl ?_
  refine ex_bipush (v := nI 10) dPairs_init_13 (by decide) ?_
  refine ex_newi dPairs_init_15 aw_int rfl (by omega) (Nat.le_of_ble_eq_true rfl) (Nat.le_of_ble_eq_true rfl) ?_
  have hz2 : (xup (xnew h (cI 10 (fun _ => 0))) a (.inr (1, [.ref (a + 1), .null, .int 0]))).1 = a + 2 := by simp [xup, xnew, hz]
  rw [hz2]
  have e2 : (xnew (xup (xnew h (cI 10 (fun _ => 0))) a (.inr (1, [.ref (a + 1), .null, .int 0]))) (cI 10 (fun _ => 0))).2 a = some (.inr (1, [.ref (a + 1), .null, .int 0])) := by simp [xnew, xup, hz]; omega
  refine ex_put (fs' := [_, _, _]) dPairs_init_17 fp_Pairs_15 e2 rfl rfl (Nat.le_of_ble_eq_true rfl) rfl ?_
  refine ex_vret dPairs_init_20 rfl (Nat.le_of_ble_eq_true rfl) (Nat.le_of_ble_eq_true rfl) ⟨rfl, ⟨fun _ => 0, fun _ => 0, ?_, ?_, ?_, by simp, fun j hj => absurd hj (Nat.not_lt_zero _), fun j hj => absurd hj (Nat.not_lt_zero _), fun q hq => by simp at hq⟩, ?_, fun q hq => ?_⟩
  · rw [xup_self]; rfl
  · simp [xnew, xup, hz]
  · simp [xnew, xup, hz]
  · simp [xup, xnew, hz]
  · simp [xup, xnew, hz, show q ≠ a by omega, show q ≠ a + 1 by omega, show q ≠ a + 2 by omega]
end PAIRS
