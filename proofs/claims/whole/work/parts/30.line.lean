/-! Line: a row of signs. Ln h a N w: at a an object Line, at a + 1 its array of N places, which begins with w. -/
abbrev cI (N : Nat) (f : Nat → Int32) : xE := .inl (0, N, .inl f)
abbrev cLine (r sz : Nat) : xE := .inr (0, [.ref r, .int (nI sz)])
def Sm (h h' : xH) (lo hi : Nat) : Prop := h'.1 = h.1 ∧ ∀ q : Nat, (q < lo ∨ hi ≤ q) → h'.2 q = h.2 q
theorem Sm.rf {h : xH} {lo hi : Nat} : Sm h h lo hi := ⟨rfl, fun _ _ => rfl⟩
theorem Sm.trans {h h1 h2 : xH} {lo hi : Nat} (a : Sm h h1 lo hi) (b : Sm h1 h2 lo hi) : Sm h h2 lo hi := ⟨b.1.trans a.1, fun q hq => (b.2 q hq).trans (a.2 q hq)⟩
theorem Sm.wide {h h1 : xH} {lo hi lo' hi' : Nat} (a : Sm h h1 lo hi) (hl : lo' ≤ lo) (hh : hi ≤ hi') : Sm h h1 lo' hi' := ⟨a.1, fun q hq => a.2 q (by omega)⟩
theorem Sm.up {h : xH} {a lo hi : Nat} {e : xE} (h1 : lo ≤ a) (h2 : a < hi) : Sm h (xup h a e) lo hi := ⟨rfl, fun q hq => xup_ne h e (by omega)⟩
def Ln (h : xH) (a N : Nat) (w : List Nat) : Prop := ∃ f : Nat → Int32, h.2 a = some (cLine (a + 1) w.length) ∧ h.2 (a + 1) = some (cI N f) ∧ w.length ≤ N ∧ N < 100 ∧ ∀ j, j < w.length → f j = nI (w.getD j 0)
theorem Ln.sm {h h' : xH} {a N lo hi : Nat} {w : List Nat} (H : Ln h a N w) (hs : Sm h h' lo hi) (hd : a + 2 ≤ lo ∨ hi ≤ a) : Ln h' a N w := by
  obtain ⟨f, h1, h2, h3⟩ := H
  exact ⟨f, by rw [hs.2 a (by omega)]; exact h1, by rw [hs.2 (a + 1) (by omega)]; exact h2, h3⟩
section LINE
variable {l : Launch} {G : xG} {d : Nat} {h : xH} {a N : Nat} {w : List Nat}
theorem c_Line_size (H : Ln h a N w) : xMet l G mLine_size d 0 0 [.ref a] h (fun o h' => o = .inl (some (.int (nI w.length))) ∧ h' = h) := by
  obtain ⟨f, h1, h2, h3, h4, h5⟩ := H
  refine xMet_of (L := [_]) (by decide) (Nat.le_of_ble_eq_true rfl) rfl ?_
  refine ex_aload_n dLine_size_0 rfl ?_
  refine ex_get dLine_size_1 fg_Line_15 h1 rfl ?_
  exact ex_iret dLine_size_4 rfl (Nat.le_refl _) (Nat.le_refl _) ⟨rfl, rfl⟩
theorem c_Line_isFull (H : Ln h a N w) : xMet l G mLine_isFull d 0 0 [.ref a] h (fun o h' => o = .inl (some (.int (if w.length < N then 0 else 1))) ∧ h' = h) := by
  obtain ⟨f, h1, h2, h3, h4, h5⟩ := H
  refine xMet_of (L := [_]) (by decide) (Nat.le_of_ble_eq_true rfl) rfl ?_
  refine ex_aload_n dLine_isFull_0 rfl ?_
  refine ex_get dLine_isFull_1 fg_Line_15 h1 rfl ?_
  refine ex_aload_n dLine_isFull_4 rfl ?_
  refine ex_get dLine_isFull_5 fg_Line_9 h1 rfl ?_
  refine ex_alen dLine_isFull_8 h2 (fun _ => rfl) ?_
  refine ex_icmp_lt (tgt := 16) dLine_isFull_9 (by decide) (fun hc => ?_) (fun hc => ?_)
  · rw [nI_ltI (by omega) (by omega)] at hc
    refine ex_iconst (v := nI 0) dLine_isFull_16 (by decide) ?_
    exact ex_zret dLine_isFull_17 rfl (by decide) (Nat.le_refl _) (Nat.le_refl _) ⟨by rw [if_pos hc]; rfl, rfl⟩
  · rw [nI_ltI (by omega) (by omega)] at hc
    refine ex_iconst (v := nI 1) dLine_isFull_12 (by decide) ?_
    refine ex_goto (tgt := 17) dLine_isFull_13 (by decide) ?_
    exact ex_zret dLine_isFull_17 rfl (by decide) (Nat.le_refl _) (Nat.le_refl _) ⟨by rw [if_neg hc]; rfl, rfl⟩
theorem c_Line_hasRoomFor {b N' : Nat} {v : List Nat} (H : Ln h a N w) (H' : Ln h b N' v) : xMet l G mLine_hasRoomFor d 0 0 [.ref a, .ref b] h (fun o h' => o = .inl (some (.int (if w.length + v.length ≤ N then 1 else 0))) ∧ h' = h) := by
  obtain ⟨f, h1, h2, h3, h4, h5⟩ := H
  obtain ⟨f', h1', h2', h3', h4', h5'⟩ := H'
  refine xMet_of (L := [_, _]) (by decide) (Nat.le_of_ble_eq_true rfl) rfl ?_
  refine ex_aload_n dLine_hasRoomFor_0 rfl ?_
  refine ex_get dLine_hasRoomFor_1 fg_Line_15 h1' rfl ?_
  refine ex_aload_n dLine_hasRoomFor_4 rfl ?_
  refine ex_get dLine_hasRoomFor_5 fg_Line_9 h1 rfl ?_
  refine ex_alen dLine_hasRoomFor_8 h2 (fun _ => rfl) ?_
  refine ex_aload_n dLine_hasRoomFor_9 rfl ?_
  refine ex_get dLine_hasRoomFor_10 fg_Line_15 h1 rfl ?_
  refine ex_isub dLine_hasRoomFor_13 ?_
  rw [pk_sub h3]
  refine ex_icmp_gt (tgt := 21) dLine_hasRoomFor_14 (by decide) (fun hc => ?_) (fun hc => ?_)
  · rw [nI_ltI (by omega) (by omega)] at hc
    refine ex_iconst (v := nI 0) dLine_hasRoomFor_21 (by decide) ?_
    exact ex_zret dLine_hasRoomFor_22 rfl (by decide) (Nat.le_refl _) (Nat.le_refl _) ⟨by rw [if_neg (by omega)]; rfl, rfl⟩
  · rw [nI_ltI (by omega) (by omega)] at hc
    refine ex_iconst (v := nI 1) dLine_hasRoomFor_17 (by decide) ?_
    refine ex_goto (tgt := 22) dLine_hasRoomFor_18 (by decide) ?_
    exact ex_zret dLine_hasRoomFor_22 rfl (by decide) (Nat.le_refl _) (Nat.le_refl _) ⟨by rw [if_pos (by omega)]; rfl, rfl⟩
theorem c_Line_signAt {i : Nat} (hi : i < 2 ^ 31) (H : Ln h a N w) : xMet l G mLine_signAt d 0 0 [.ref a, .int (nI i)] h (fun o h' => o = .inl (some (.int (nI (w.getD i 0)))) ∧ h' = h) := by
  obtain ⟨f, h1, h2, h3, h4, h5⟩ := H
  refine xMet_of (L := [_, _]) (by decide) (Nat.le_of_ble_eq_true rfl) rfl ?_
  refine ex_iload_n dLine_signAt_0 rfl ?_
  refine ex_if_lt (tgt := 21) dLine_signAt_1 (by decide) (fun hc => ?_) (fun hc => ?_)
  · exact absurd hc (nI_pos hi)
  refine ex_iload_n dLine_signAt_4 rfl ?_
  refine ex_aload_n dLine_signAt_5 rfl ?_
  refine ex_get dLine_signAt_6 fg_Line_15 h1 rfl ?_
  refine ex_icmp_ge (tgt := 21) dLine_signAt_9 (by decide) (fun hc2 => ?_) (fun hc2 => ?_)
  · rw [nI_leI (by omega) (by omega)] at hc2
    refine ex_iconst (v := nI 0) dLine_signAt_21 (by decide) ?_
    exact ex_iret dLine_signAt_22 rfl (Nat.le_refl _) (Nat.le_refl _) ⟨by rw [List.getD_eq_getElem?_getD, List.getElem?_eq_none hc2]; rfl, rfl⟩
  · rw [nI_leI (by omega) (by omega)] at hc2
    refine ex_aload_n dLine_signAt_12 rfl ?_
    refine ex_get dLine_signAt_13 fg_Line_9 h1 rfl ?_
    refine ex_iload_n dLine_signAt_16 rfl ?_
    refine ex_iaload dLine_signAt_17 h2 rfl (by omega) (by omega) ?_
    refine ex_goto (tgt := 22) dLine_signAt_18 (by decide) ?_
    exact ex_iret dLine_signAt_22 rfl (Nat.le_refl _) (Nat.le_refl _) ⟨by rw [h5 i (by omega)], rfl⟩
theorem Ln.push {x : Nat} {f : Nat → Int32} (h1 : h.2 a = some (cLine (a + 1) w.length)) (h2 : h.2 (a + 1) = some (cI N f)) (h3 : w.length < N) (h4 : N < 100) (h5 : ∀ j, j < w.length → f j = nI (w.getD j 0)) :
    Ln (xup (xup h (a + 1) (cI N (upd f w.length (nI x)))) a (cLine (a + 1) (w.length + 1))) a N (w ++ [x]) ∧ Sm h (xup (xup h (a + 1) (cI N (upd f w.length (nI x)))) a (cLine (a + 1) (w.length + 1))) a (a + 2) := by
  refine ⟨⟨upd f w.length (nI x), ?_, ?_, ?_, h4, ?_⟩, ?_⟩
  · rw [xup_self]; simp
  · rw [xup_ne _ _ (by omega), xup_self]
  · simp; omega
  · intro j hj
    by_cases e : j = w.length
    · subst e; rw [pk_us]; simp
    · have hj' : j < w.length := by simp at hj; omega
      rw [pk_un e, h5 j hj']
      congr 1
      simp [List.getElem?_append_left hj']
  · exact (Sm.up (by omega) (by omega)).trans (Sm.up (by omega) (by omega))
theorem c_Line_add {x : Nat} (H : Ln h a N w) : xMet l G mLine_add (d + 1) 0 0 [.ref a, .int (nI x)] h (fun o h' => o = .inl (some (.int (nI ((w ++ [x]).take N).length))) ∧ Ln h' a N ((w ++ [x]).take N) ∧ Sm h h' a (a + 2)) := by
  have H0 := H
  obtain ⟨f, h1, h2, h3, h4, h5⟩ := H
  refine xMet_of (L := [_, _]) (by decide) (Nat.le_of_ble_eq_true rfl) rfl ?_
  refine ex_aload_n dLine_add_0 rfl ?_
  refine ex_v0 dLine_add_1 iv_Line_19 cd_Line_isFull ar_Line_isFull h1 (c_Line_isFull (d := d) H0) (by dsimp only; omega) (Nat.le_of_ble_eq_true rfl) (Nat.le_refl _) (Nat.le_refl _) (fun E h9 q9 => by simp at q9) (fun v9 hp9 hq => ?_)
  obtain ⟨e, e2⟩ := hq
  cases e
  rw [e2]
  refine ex_if_ne (tgt := 27) dLine_add_4 (by decide) (fun hc => ?_) (fun hc => ?_)
  · have hf : ¬ w.length < N := fun q => hc (by rw [if_pos q])
    have ht : (w ++ [x]).take N = w := by rw [List.take_append_of_le_length (by omega), List.take_of_length_le (by omega)]
    refine ex_aload_n dLine_add_27 rfl ?_
    refine ex_get dLine_add_28 fg_Line_15 h1 rfl ?_
    exact ex_iret dLine_add_31 rfl (Nat.le_refl _) (Nat.le_refl _) ⟨by rw [ht], by rw [ht]; exact ⟨f, h1, h2, h3, h4, h5⟩, Sm.rf⟩
  · have hf : w.length < N := Decidable.byContradiction fun q => by rw [if_neg q] at hc; exact absurd hc (by decide)
    have ht : (w ++ [x]).take N = w ++ [x] := List.take_of_length_le (by simp; omega)
    have e1 : (xup h (a + 1) (cI N (upd f w.length (nI x)))).2 a = some (cLine (a + 1) w.length) := by rw [xup_ne _ _ (by omega)]; exact h1
    refine ex_aload_n dLine_add_7 rfl ?_
    refine ex_get dLine_add_8 fg_Line_9 h1 rfl ?_
    refine ex_aload_n dLine_add_11 rfl ?_
    refine ex_get dLine_add_12 fg_Line_15 h1 rfl ?_
    refine ex_iload_n dLine_add_15 rfl ?_
    refine ex_iastore dLine_add_16 h2 rfl hf (by omega) ?_
    refine ex_aload_n dLine_add_17 rfl ?_
    refine ex_dup dLine_add_18 rfl ?_
    refine ex_get dLine_add_19 fg_Line_15 e1 rfl ?_
    refine ex_iconst (v := nI 1) dLine_add_22 (by decide) ?_
    refine ex_iadd dLine_add_23 ?_
    rw [show nI w.length + nI 1 = nI (w.length + 1) from nI_add _ _]
    refine ex_put (fs' := [_, _]) dLine_add_24 (fp_Line_15 _) e1 rfl rfl (Nat.le_of_ble_eq_true rfl) rfl ?_
    refine ex_aload_n dLine_add_27 rfl ?_
    refine ex_get dLine_add_28 fg_Line_15 (xup_self _ _ _) rfl ?_
    obtain ⟨p1, p2⟩ := Ln.push (x := x) h1 h2 hf h4 h5
    exact ex_iret dLine_add_31 rfl (Nat.le_refl _) (Nat.le_refl _) ⟨by rw [ht]; simp, by rw [ht]; exact p1, p2⟩
theorem c_Line_cutTo {k : Nat} (hk : k < 2 ^ 31) (H : Ln h a N w) : xMet l G mLine_cutTo d 0 0 [.ref a, .int (nI k)] h (fun o h' => o = .inl none ∧ Ln h' a N (w.take k) ∧ Sm h h' a (a + 2)) := by
  have H0 := H
  obtain ⟨f, h1, h2, h3, h4, h5⟩ := H
  refine xMet_of (L := [_, _]) (by decide) (Nat.le_of_ble_eq_true rfl) rfl ?_
  refine ex_iload_n dLine_cutTo_0 rfl ?_
  refine ex_if_lt (tgt := 17) dLine_cutTo_1 (by decide) (fun hc => ?_) (fun hc => ?_)
  · exact absurd hc (nI_pos hk)
  refine ex_iload_n dLine_cutTo_4 rfl ?_
  refine ex_aload_n dLine_cutTo_5 rfl ?_
  refine ex_get dLine_cutTo_6 fg_Line_15 h1 rfl ?_
  refine ex_icmp_ge (tgt := 17) dLine_cutTo_9 (by decide) (fun hc2 => ?_) (fun hc2 => ?_)
  · rw [nI_leI (by omega) (by omega)] at hc2
    exact ex_vret dLine_cutTo_17 rfl (Nat.le_refl _) (Nat.le_refl _) ⟨rfl, by rw [List.take_of_length_le hc2]; exact H0, Sm.rf⟩
  · rw [nI_leI (by omega) (by omega)] at hc2
    refine ex_aload_n dLine_cutTo_12 rfl ?_
    refine ex_iload_n dLine_cutTo_13 rfl ?_
    refine ex_put (fs' := [_, _]) dLine_cutTo_14 (fp_Line_15 _) h1 rfl rfl (Nat.le_of_ble_eq_true rfl) rfl ?_
    have hl : (w.take k).length = k := by rw [List.length_take]; omega
    refine ex_vret dLine_cutTo_17 rfl (Nat.le_refl _) (Nat.le_refl _) ⟨rfl, ⟨f, ?_, ?_, by omega, h4, fun j hj => ?_⟩, Sm.up (Nat.le_refl _) (by omega)⟩
    · rw [xup_self, hl]
    · rw [xup_ne _ _ (by omega)]; exact h2
    · rw [h5 j (by omega)]
      congr 1
      simp [List.getElem?_take, show j < k by omega]
theorem c_Line_addAll {b N' : Nat} {v : List Nat} (H : Ln h a N w) (H' : Ln h b N' v) (hd : b + 2 ≤ a ∨ a + 2 ≤ b) : xMet l G mLine_addAll (d + 2) 0 0 [.ref a, .ref b] h (fun o h' => o = .inl none ∧ Ln h' a N ((w ++ v).take N) ∧ Sm h h' a (a + 2)) := by
  have hwN : w.length ≤ N := by obtain ⟨f, h1, h2, h3, h4, h5⟩ := H; exact h3
  have loop : ∀ (j i : Nat) (hi : xH), i + j = v.length → Ln hi a N ((w ++ v.take i).take N) → Sm h hi a (a + 2) → Ex (l, G, d + 2, 0, 0, h, fun o h' => o = .inl none ∧ Ln h' a N ((w ++ v).take N) ∧ Sm h h' a (a + 2)) mLine_addAll 2 [some (.ref a), some (.ref b), some (.int (nI i))] [] hi 0 0 := by
    intro j
    induction j with
    | zero =>
      intro i hi hij HL hS
      obtain ⟨f', h1', h2', h3', h4', h5'⟩ := H'.sm hS hd
      refine ex_iload_n dLine_addAll_2 rfl ?_
      refine ex_aload_n dLine_addAll_3 rfl ?_
      refine ex_get dLine_addAll_4 fg_Line_15 h1' rfl ?_
      refine ex_icmp_ge (tgt := 27) dLine_addAll_7 (by decide) (fun hc => ?_) (fun hc => ?_)
      · rw [show v.take i = v from List.take_of_length_le (by omega)] at HL
        exact ex_vret dLine_addAll_27 rfl (Nat.le_refl _) (Nat.le_refl _) ⟨rfl, HL, hS⟩
      · exact absurd (nI_le (by omega) (by omega)) hc
    | succ j ih =>
      intro i hi hij HL hS
      obtain ⟨f', h1', h2', h3', h4', h5'⟩ := H'.sm hS hd
      have HL0 := HL
      obtain ⟨f, h1, h2, h3, h4, h5⟩ := HL0
      refine ex_iload_n dLine_addAll_2 rfl ?_
      refine ex_aload_n dLine_addAll_3 rfl ?_
      refine ex_get dLine_addAll_4 fg_Line_15 h1' rfl ?_
      refine ex_icmp_ge (tgt := 27) dLine_addAll_7 (by decide) (fun hc => ?_) (fun hc => ?_)
      · exact absurd hc (nI_ge (by omega) (by omega))
      refine ex_aload_n dLine_addAll_10 rfl ?_
      refine ex_aload_n dLine_addAll_11 rfl ?_
      refine ex_get dLine_addAll_12 fg_Line_9 h1' rfl ?_
      refine ex_iload_n dLine_addAll_15 rfl ?_
      refine ex_iaload dLine_addAll_16 h2' rfl (by omega) (by omega) ?_
      rw [h5' i (by omega)]
      refine ex_v1 dLine_addAll_17 iv_Line_23 cd_Line_add ar_Line_add h1 (c_Line_add (d := d) HL) (by dsimp only; omega) (Nat.le_of_ble_eq_true rfl) (Nat.le_refl _) (Nat.le_refl _) (fun E h9 q9 => by simp at q9) (fun x9 h9 hq => ?_)
      obtain ⟨e, HL9, hS9⟩ := hq
      cases e
      refine ex_pop dLine_addAll_20 rfl ?_
      refine ex_iinc (L' := [_, _, _]) dLine_addAll_21 rfl rfl (by decide) rfl ?_
      refine ex_goto (tgt := 2) dLine_addAll_24 (by decide) ?_
      rw [show nI i + Int32.ofInt 1 = nI (i + 1) from nI_1 i]
      refine ih (i + 1) h9 (by omega) ?_ (hS.trans hS9)
      have e : (((w ++ v.take i).take N) ++ [v.getD i 0]).take N = (w ++ v.take (i + 1)).take N := by
        have hg : v[i]? = some (v.getD i 0) := by rw [List.getD_eq_getElem?_getD, List.getElem?_eq_getElem (by omega)]; rfl
        rw [List.take_succ, hg, Option.toList_some, ← List.append_assoc]
        generalize w ++ List.take i v = u
        by_cases hu : u.length ≤ N
        · rw [List.take_of_length_le hu]
        · rw [List.take_append_of_le_length (by rw [List.length_take]; omega), List.take_append_of_le_length (by omega), List.take_take, Nat.min_self]
      rw [← e]; exact HL9
  refine xMet_of (L := [_, _, _]) (by decide) (Nat.le_of_ble_eq_true rfl) rfl ?_
  refine ex_iconst (v := nI 0) dLine_addAll_0 (by decide) ?_
  refine ex_istore_n (L' := [_, _, _]) dLine_addAll_1 (by decide) rfl ?_
  exact loop v.length 0 h (by omega) (by rw [List.take_zero, List.append_nil, List.take_of_length_le hwN]; exact H) Sm.rf
theorem c_Line_copy {b N' : Nat} {v : List Nat} (H : Ln h a N w) (H' : Ln h b N' v) (hd : b + 2 ≤ a ∨ a + 2 ≤ b) : xMet l G mLine_copy (d + 3) 0 0 [.ref a, .ref b] h (fun o h' => o = .inl none ∧ Ln h' a N (v.take N) ∧ Sm h h' a (a + 2)) := by
  have H0 := H
  obtain ⟨f, h1, h2, h3, h4, h5⟩ := H
  refine xMet_of (L := [_, _]) (by decide) (Nat.le_of_ble_eq_true rfl) rfl ?_
  refine ex_aload_n dLine_copy_0 rfl ?_
  refine ex_iconst (v := nI 0) dLine_copy_1 (by decide) ?_
  refine ex_v1 dLine_copy_2 iv_Line_27 cd_Line_cutTo ar_Line_cutTo h1 (c_Line_cutTo (d := d) (k := 0) (by decide) H0) (by dsimp only; omega) (Nat.le_of_ble_eq_true rfl) (Nat.le_refl _) (Nat.le_refl _) (fun E h9 q9 => by simp at q9) (fun x9 h9 hq => ?_)
  obtain ⟨e, HL9, hS9⟩ := hq
  cases e
  have H9 := H'.sm hS9 hd
  have HL8 := HL9
  obtain ⟨f9, h19, -⟩ := HL8
  refine ex_aload_n dLine_copy_5 rfl ?_
  refine ex_aload_n dLine_copy_6 rfl ?_
  refine ex_v1 dLine_copy_7 iv_Line_31 cd_Line_addAll ar_Line_addAll h19 (c_Line_addAll (d := d) HL9 H9 hd) (by dsimp only; omega) (Nat.le_of_ble_eq_true rfl) (Nat.le_refl _) (Nat.le_refl _) (fun E h9 q9 => by simp at q9) (fun x8 h8 hq => ?_)
  obtain ⟨e, HL7, hS7⟩ := hq
  cases e
  exact ex_vret dLine_copy_10 rfl (Nat.le_refl _) (Nat.le_refl _) ⟨rfl, by simpa using HL7, hS9.trans hS7⟩
theorem c_Line_init (hN : N < 100) (hz : h.1 = a + 1) (h1 : h.2 a = some (.inr (0, [.null, .int 0]))) : xMet l G mLine_init d 1 N [.ref a, .int (nI N)] h (fun o h' => o = .inl none ∧ Ln h' a N [] ∧ h'.1 = a + 2 ∧ ∀ q : Nat, (q < a ∨ a + 2 ≤ q) → h'.2 q = h.2 q) := by
  refine xMet_of (L := [_, _]) (by decide) (Nat.le_of_ble_eq_true rfl) rfl ?_
  refine ex_aload_n dLine_init_0 rfl ?_
  refine ex_objInit dLine_init_1 oi_Line_3 oi_1 oi_2 (by decide) ?_
  refine ex_aload_n dLine_init_4 rfl ?_
  refine ex_iload_n dLine_init_5 rfl ?_
  refine ex_newi dLine_init_6 aw_int rfl (by omega) (by show 0 + 1 ≤ 1; omega) (by show 0 + N ≤ N; omega) ?_
  rw [hz]
  have e1 : (xnew h (cI N (fun _ => 0))).2 a = some (.inr (0, [.null, .int 0])) := by simp [xnew, hz, h1]
  refine ex_put (fs' := [_, _]) dLine_init_8 fp_Line_9 e1 rfl rfl (Nat.le_of_ble_eq_true rfl) rfl ?_
  refine ex_vret dLine_init_11 rfl (by show 0 + 1 ≤ 1; omega) (by show 0 + N ≤ N; omega) ⟨rfl, ⟨fun _ => 0, ?_, ?_, Nat.zero_le _, hN, fun j hj => absurd hj (Nat.not_lt_zero _)⟩, ?_, fun q hq => ?_⟩
  · rw [xup_self]; rfl
  · rw [xup_ne _ _ (by omega)]; simp [xnew, hz]
  · simp [xup, xnew, hz]
  · rw [xup_ne _ _ (by omega)]; simp [xnew, hz, show q ≠ a + 1 by omega]
end LINE
