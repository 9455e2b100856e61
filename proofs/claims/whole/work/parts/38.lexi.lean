/-! Lexicon. Lx h a es: at a the object, at a + 1 .. a + 4 the arrays, at a + 5 the word's signs, then the entries' lines. -/
abbrev xEn : Type := Nat × Option Nat × List Nat
def eN (o : Option Nat) : Int32 := match o with
  | none => -1
  | some n => nI n
abbrev cLexi (a c : Nat) : xE := .inr (8, [.ref (a + 1), .ref (a + 2), .ref (a + 3), .ref (a + 4), .ref (a + 5), .int (nI c)])
abbrev en0 : xEn := (0, none, [])
def Lx (h : xH) (a : Nat) (es : List xEn) : Prop := ∃ (g : Nat → Int32) (f : Nat → Option Nat), h.2 a = some (cLexi a es.length) ∧ IA h (a + 1) 8 es.length (fun j => (es.getD j en0).1) ∧ h.2 (a + 2) = some (cI 8 g) ∧ (∀ j, j < es.length → g j = eN (es.getD j en0).2.1) ∧ h.2 (a + 3) = some (cQ 8 f) ∧ (∀ j, j < 8 → f j = some (a + 7 + 2 * j)) ∧ (∀ j, j < 8 → Ln h (a + 7 + 2 * j) 3 (es.getD j en0).2.2) ∧ es.length ≤ 8
theorem Lx.sm {h h' : xH} {a lo hi : Nat} {es : List xEn} (H : Lx h a es) (hs : Sm h h' lo hi) (hd : a + 23 ≤ lo ∨ hi ≤ a ∨ (a + 4 ≤ lo ∧ hi ≤ a + 7)) : Lx h' a es := by
  obtain ⟨g, f, h1, h2, h3, h4, h5, h6, h7, h8⟩ := H
  exact ⟨g, f, (hs.2 _ (by omega)).trans h1, h2.at (hs.2 _ (by omega)), (hs.2 _ (by omega)).trans h3, h4, (hs.2 _ (by omega)).trans h5, h6, fun j hj => (h7 j hj).sm hs (by omega), h8⟩
section LEXI
variable {l : Launch} {G : xG} {d : Nat} {h : xH} {a : Nat} {es : List xEn}
theorem c_Lexi_count (H : Lx h a es) : xMet l G mLexi_count d 0 0 [.ref a] h (fun o h' => o = .inl (some (.int (nI es.length))) ∧ h' = h) := by
  obtain ⟨g, f, h1, ⟨fp, h2, e2⟩, h3, h4, h5, h6, h7, h8⟩ := H
  refine xMet_of (L := [_]) (by decide) (Nat.le_of_ble_eq_true rfl) rfl ?_
  refine ex_aload_n dLexi_count_0 rfl ?_
  refine ex_get dLexi_count_1 fg_Lexi_34 h1 rfl ?_
  exact ex_iret dLexi_count_4 rfl (Nat.le_refl _) (Nat.le_refl _) ⟨rfl, rfl⟩
theorem c_Lexi_signsOf {i : Nat} (hi : i < 8) (H : Lx h a es) : xMet l G mLexi_signsOf d 0 0 [.ref a, .int (nI i)] h (fun o h' => o = .inl (some (.ref (a + 7 + 2 * i))) ∧ h' = h) := by
  obtain ⟨g, f, h1, ⟨fp, h2, e2⟩, h3, h4, h5, h6, h7, h8⟩ := H
  refine xMet_of (L := [_, _]) (by decide) (Nat.le_of_ble_eq_true rfl) rfl ?_
  refine ex_aload_n dLexi_signsOf_0 rfl ?_
  refine ex_get dLexi_signsOf_1 fg_Lexi_20 h1 rfl ?_
  refine ex_iload_n dLexi_signsOf_4 rfl ?_
  refine ex_aaload dLexi_signsOf_5 h5 (fun _ => rfl) rfl hi (by omega) (h6 i hi) ?_
  exact ex_aret dLexi_signsOf_6 rfl (Or.inl ⟨_, rfl⟩) (Nat.le_refl _) (Nat.le_refl _) ⟨rfl, rfl⟩
theorem c_Lexi_add {p : Nat} {nx : Option Nat} (hl : es.length < 8) (H : Lx h a es) : xMet l G mLexi_add d 0 0 [.ref a, .int (nI p), .int (eN nx)] h (fun o h' => o = .inl (some (.int (nI es.length))) ∧ Lx h' a (es ++ [(p, nx, [])]) ∧ Sm h h' a (a + 3)) := by
  obtain ⟨g, f, h1, ⟨fp, h2, e2⟩, h3, h4, h5, h6, h7, h8⟩ := H
  have d1 : (xup h (a + 1) (cI 8 (upd fp es.length (nI p)))).2 a = some (cLexi a es.length) := by rw [xup_ne _ _ (by omega)]; exact h1
  have d2 : (xup h (a + 1) (cI 8 (upd fp es.length (nI p)))).2 (a + 2) = some (cI 8 g) := by rw [xup_ne _ _ (by omega)]; exact h3
  have d3 : (xup (xup h (a + 1) (cI 8 (upd fp es.length (nI p)))) (a + 2) (cI 8 (upd g es.length (eN nx)))).2 a = some (cLexi a es.length) := by rw [xup_ne _ _ (by omega)]; exact d1
  refine xMet_of (L := [_, _, _]) (by decide) (Nat.le_of_ble_eq_true rfl) rfl ?_
  refine ex_aload_n dLexi_add_0 rfl ?_
  refine ex_get dLexi_add_1 fg_Lexi_9 h1 rfl ?_
  refine ex_aload_n dLexi_add_4 rfl ?_
  refine ex_get dLexi_add_5 fg_Lexi_34 h1 rfl ?_
  refine ex_iload_n dLexi_add_8 rfl ?_
  refine ex_iastore dLexi_add_9 h2 rfl hl (by omega) ?_
  refine ex_aload_n dLexi_add_10 rfl ?_
  refine ex_get dLexi_add_11 fg_Lexi_15 d1 rfl ?_
  refine ex_aload_n dLexi_add_14 rfl ?_
  refine ex_get dLexi_add_15 fg_Lexi_34 d1 rfl ?_
  refine ex_iload_n dLexi_add_18 rfl ?_
  refine ex_iastore dLexi_add_19 d2 rfl hl (by omega) ?_
  refine ex_aload_n dLexi_add_20 rfl ?_
  refine ex_dup dLexi_add_21 rfl ?_
  refine ex_get dLexi_add_22 fg_Lexi_34 d3 rfl ?_
  refine ex_iconst (v := nI 1) dLexi_add_25 (by decide) ?_
  refine ex_iadd dLexi_add_26 ?_
  rw [show nI es.length + nI 1 = nI (es.length + 1) from nI_add _ _]
  refine ex_put (fs' := [_, _, _, _, _, _]) dLexi_add_27 (fp_Lexi_34 _) d3 rfl rfl (Nat.le_of_ble_eq_true rfl) rfl ?_
  refine ex_aload_n dLexi_add_30 rfl ?_
  refine ex_get dLexi_add_31 fg_Lexi_34 (xup_self _ _ _) rfl ?_
  refine ex_iconst (v := nI 1) dLexi_add_34 (by decide) ?_
  refine ex_isub dLexi_add_35 ?_
  have S1 : Sm h (xup h (a + 1) (cI 8 (upd fp es.length (nI p)))) (a + 1) (a + 2) := Sm.up (by omega) (by omega)
  have S2 : Sm (xup h (a + 1) (cI 8 (upd fp es.length (nI p)))) (xup (xup h (a + 1) (cI 8 (upd fp es.length (nI p)))) (a + 2) (cI 8 (upd g es.length (eN nx)))) (a + 2) (a + 3) := Sm.up (by omega) (by omega)
  have S3 : Sm (xup (xup h (a + 1) (cI 8 (upd fp es.length (nI p)))) (a + 2) (cI 8 (upd g es.length (eN nx)))) (xup (xup (xup h (a + 1) (cI 8 (upd fp es.length (nI p)))) (a + 2) (cI 8 (upd g es.length (eN nx)))) a (cLexi a (es.length + 1))) a (a + 1) := Sm.up (by omega) (by omega)
  have SS := ((S1.wide (lo' := a) (hi' := a + 3) (by omega) (by omega)).trans (S2.wide (by omega) (by omega))).trans (S3.wide (by omega) (by omega))
  refine ex_iret dLexi_add_36 rfl (Nat.le_refl _) (Nat.le_refl _) ⟨by rw [show nI (es.length + 1) - nI 1 = nI es.length from by rw [pk_sub (by omega)]; rfl], ⟨upd g es.length (eN nx), f, by rw [xup_self]; simp, ?_, (S3.2 _ (by omega)).trans (xup_self _ _ _), fun j hj => ?_, (SS.2 _ (by omega)).trans h5, h6, fun j hj => ?_, by simp; omega⟩, SS⟩
  · refine (((IA.snoc e2).at (S2.2 _ (by omega))).at (S3.2 _ (by omega))).to (by simp) (fun j hj => ?_)
    by_cases e : j = es.length
    · subst e; rw [va_up_self, getD_snoc]
    · rw [va_up_ne _ _ e, getD_snoc' e]
  · by_cases e : j = es.length
    · subst e; rw [pk_us, getD_snoc]
    · rw [pk_un e, getD_snoc' e]; exact h4 j (by simp at hj; omega)
  · have q := (h7 j hj).sm SS (by omega)
    by_cases e : j = es.length
    · subst e; rw [getD_snoc]; rw [getD_len (Nat.le_refl _)] at q; exact q
    · rw [getD_snoc' e]; exact q
theorem c_Lexi_init (hz : h.1 = a + 1) (h1 : h.2 a = some (.inr (8, [.null, .null, .null, .null, .null, .int 0]))) : xMet l G mLexi_init (d + 1) 22 74 [.ref a] h (fun o h' => o = .inl none ∧ Lx h' a [] ∧ IA h' (a + 4) 4 0 (fun _ => 0) ∧ Ln h' (a + 5) 4 [] ∧ h'.1 = a + 23 ∧ ∀ q : Nat, q < a → h'.2 q = h.2 q) := by
  have loop : ∀ (j i : Nat) (hi : xH) (f : Nat → Option Nat) (k n : Nat), i + j = 8 → k = 6 + 2 * i → n = 34 + 5 * i → hi.1 = a + 7 + 2 * i → hi.2 a = some (cLexi a 0) → IA hi (a + 1) 8 0 (fun _ => 0) → IA hi (a + 2) 8 0 (fun _ => 0) → hi.2 (a + 3) = some (cQ 8 f) → IA hi (a + 4) 4 0 (fun _ => 0) → Ln hi (a + 5) 4 [] → (∀ j, j < i → f j = some (a + 7 + 2 * j)) → (∀ j, j < i → Ln hi (a + 7 + 2 * j) 3 []) → (∀ q : Nat, q < a → hi.2 q = h.2 q) → Ex (l, G, d + 1, 22, 74, h, fun o h' => o = .inl none ∧ Lx h' a [] ∧ IA h' (a + 4) 4 0 (fun _ => 0) ∧ Ln h' (a + 5) 4 [] ∧ h'.1 = a + 23 ∧ ∀ q : Nat, q < a → h'.2 q = h.2 q) mLexi_init 50 [some (.ref a), some (.int (nI i))] [] hi k n := by
    intro j
    induction j with
    | zero =>
      intro i hi f k n hij hk hn z o1 A1 A2 o3 A4 L5 e1 L1 F
      have e : i = 8 := by omega
      subst e
      obtain ⟨g2, x2, -⟩ := A2
      obtain ⟨g1, x1, -⟩ := A1
      refine ex_iload_n dLexi_init_50 rfl ?_
      refine ex_bipush (v := nI 8) dLexi_init_51 (by decide) ?_
      refine ex_icmp_ge (tgt := 76) dLexi_init_53 (by decide) (fun hc => ?_) (fun hc => ?_)
      · exact ex_vret dLexi_init_76 rfl (by dsimp only; omega) (by dsimp only; omega) ⟨rfl, ⟨g2, f, o1, ⟨g1, x1, fun j hj => absurd hj (Nat.not_lt_zero _)⟩, x2, fun j hj => absurd hj (Nat.not_lt_zero _), o3, e1, L1, by simp⟩, A4, L5, z, F⟩
      · exact absurd (by decide) hc
    | succ j ih =>
      intro i hi f k n hij hk hn z o1 A1 A2 o3 A4 L5 e1 L1 F
      refine ex_iload_n dLexi_init_50 rfl ?_
      refine ex_bipush (v := nI 8) dLexi_init_51 (by decide) ?_
      refine ex_icmp_ge (tgt := 76) dLexi_init_53 (by decide) (fun hc => ?_) (fun hc => ?_)
      · exact absurd hc (nI_ge (by omega) (by omega))
      refine ex_aload_n dLexi_init_56 rfl ?_
      refine ex_get dLexi_init_57 fg_Lexi_20 o1 rfl ?_
      refine ex_iload_n dLexi_init_60 rfl ?_
      refine ex_new dLexi_init_61 nw_Lexi_18 (by dsimp only; omega) (by dsimp only; omega) ?_
      rw [z]
      refine ex_dup dLexi_init_64 rfl ?_
      refine ex_iconst (v := nI 3) dLexi_init_65 (by decide) ?_
      refine ex_i1 dLexi_init_66 ii_Lexi_27 cd_Line_init ar_Line_init (c_Line_init (d := d) (a := a + 7 + 2 * i) (N := 3) (by omega) (by simp [xnew, z]) (by simp [xnew, z])) (by dsimp only; omega) (Nat.le_of_ble_eq_true rfl) (by dsimp only; omega) (by dsimp only; omega) (fun E h9 q9 => by simp at q9) (fun v9 g1 hq => ?_)
      obtain ⟨e, N1, z1, F1⟩ := hq
      cases e
      have w1 : ∀ q : Nat, q < a + 7 + 2 * i → g1.2 q = hi.2 q := fun q hq => by rw [F1 q (by omega), xnew_ne _ (by omega)]
      have N1c := N1
      obtain ⟨nf, n1, -⟩ := N1c
      have S1 : Sm g1 (xup g1 (a + 3) (cQ 8 (va_up f i (some (a + 7 + 2 * i))))) (a + 3) (a + 4) := Sm.up (by omega) (by omega)
      refine ex_aastore dLexi_init_69 ((w1 _ (by omega)).trans o3) (fun _ => rfl) n1 rfl rfl (by omega) (by omega) ?_
      refine ex_iinc (L' := [_, _]) dLexi_init_70 rfl rfl (by decide) rfl ?_
      refine ex_goto (tgt := 50) dLexi_init_73 (by decide) ?_
      have w2 : ∀ q : Nat, q < a + 7 + 2 * i → q ≠ a + 3 → (xup g1 (a + 3) (cQ 8 (va_up f i (some (a + 7 + 2 * i))))).2 q = hi.2 q := fun q hq hn => (S1.2 q (by omega)).trans (w1 q hq)
      rw [show nI i + Int32.ofInt 1 = nI (i + 1) from nI_1 i]
      refine ih (i + 1) _ _ _ _ (by omega) (by omega) (by omega) (by rw [xup_1, z1]; omega) ((w2 _ (by omega) (by omega)).trans o1) (A1.at (w2 _ (by omega) (by omega))) (A2.at (w2 _ (by omega) (by omega))) (xup_self _ _ _) (A4.at (w2 _ (by omega) (by omega))) (L5.eq (w2 _ (by omega) (by omega)) (w2 _ (by omega) (by omega))) (fun j hj => ?_) (fun j hj => ?_) (fun q hq => (w2 _ (by omega) (by omega)).trans (F q hq))
      · by_cases e : j = i
        · subst e; rw [va_up_self]
        · rw [va_up_ne _ _ e]; exact e1 j (by omega)
      · by_cases e : j = i
        · subst e; exact N1.sm S1 (by omega)
        · exact (L1 j (by omega)).eq (w2 _ (by omega) (by omega)) (w2 _ (by omega) (by omega))
  refine xMet_of (L := [_, _]) (by decide) (Nat.le_of_ble_eq_true rfl) rfl ?_
  refine ex_aload_n dLexi_init_0 rfl ?_
  refine ex_objInit dLexi_init_1 oi_Lexi_3 oi_1 oi_2 (by decide) ?_
  refine ex_aload_n dLexi_init_4 rfl ?_
  refine ex_bipush (v := nI 8) dLexi_init_5 (by decide) ?_
  refine ex_newi dLexi_init_7 aw_int rfl (by omega) (Nat.le_of_ble_eq_true rfl) (Nat.le_of_ble_eq_true rfl) ?_
  rw [hz]
  have ck1 : (xnew h (cI 8 (fun _ => 0))).2 a = some (.inr (8, [.null, .null, .null, .null, .null, .int 0])) := by rw [xnew_ne _ (by omega)]; exact h1
  refine ex_put (fs' := [_, _, _, _, _, _]) dLexi_init_9 fp_Lexi_9 ck1 rfl rfl (Nat.le_of_ble_eq_true rfl) rfl ?_
  have zk1 : (xup (xnew h (cI 8 (fun _ => 0))) a (.inr (8, [.ref (a + 1), .null, .null, .null, .null, .int 0]))).1 = a + 2 := by rw [xup_1]; show _ + 1 = _; omega
  have bk1 : (xup (xnew h (cI 8 (fun _ => 0))) a (.inr (8, [.ref (a + 1), .null, .null, .null, .null, .int 0]))).2 a = some (.inr (8, [.ref (a + 1), .null, .null, .null, .null, .int 0])) := xup_self _ _ _
  have fk1 : ∀ q, q < a → (xup (xnew h (cI 8 (fun _ => 0))) a (.inr (8, [.ref (a + 1), .null, .null, .null, .null, .int 0]))).2 q = h.2 q := fun q hq => by rw [xup_ne _ _ (by omega), xnew_ne _ (by omega)]
  have ik1 : (xup (xnew h (cI 8 (fun _ => 0))) a (.inr (8, [.ref (a + 1), .null, .null, .null, .null, .int 0]))).2 (a + 1) = some (cI 8 (fun _ => 0)) := by rw [xup_ne _ _ (by omega)]; simp [xnew, hz]
  have ok1 : ∀ q, a < q → q < a + 1 → (xup (xnew h (cI 8 (fun _ => 0))) a (.inr (8, [.ref (a + 1), .null, .null, .null, .null, .int 0]))).2 q = h.2 q := fun q h1 h2 => by rw [xup_ne _ _ (by omega), xnew_ne _ (by omega)]
  generalize xup (xnew h (cI 8 (fun _ => 0))) a (.inr (8, [.ref (a + 1), .null, .null, .null, .null, .int 0])) = k1 at *
  refine ex_aload_n dLexi_init_12 rfl ?_
  refine ex_bipush (v := nI 8) dLexi_init_13 (by decide) ?_
  refine ex_newi dLexi_init_15 aw_int rfl (by omega) (Nat.le_of_ble_eq_true rfl) (Nat.le_of_ble_eq_true rfl) ?_
  rw [zk1]
  have ck2 : (xnew k1 (cI 8 (fun _ => 0))).2 a = some (.inr (8, [.ref (a + 1), .null, .null, .null, .null, .int 0])) := by rw [xnew_ne _ (by omega)]; exact bk1
  refine ex_put (fs' := [_, _, _, _, _, _]) dLexi_init_17 fp_Lexi_15 ck2 rfl rfl (Nat.le_of_ble_eq_true rfl) rfl ?_
  have zk2 : (xup (xnew k1 (cI 8 (fun _ => 0))) a (.inr (8, [.ref (a + 1), .ref (a + 2), .null, .null, .null, .int 0]))).1 = a + 3 := by rw [xup_1]; show _ + 1 = _; omega
  have bk2 : (xup (xnew k1 (cI 8 (fun _ => 0))) a (.inr (8, [.ref (a + 1), .ref (a + 2), .null, .null, .null, .int 0]))).2 a = some (.inr (8, [.ref (a + 1), .ref (a + 2), .null, .null, .null, .int 0])) := xup_self _ _ _
  have fk2 : ∀ q, q < a → (xup (xnew k1 (cI 8 (fun _ => 0))) a (.inr (8, [.ref (a + 1), .ref (a + 2), .null, .null, .null, .int 0]))).2 q = h.2 q := fun q hq => by rw [xup_ne _ _ (by omega), xnew_ne _ (by omega)]; exact fk1 q hq
  have ik2 : (xup (xnew k1 (cI 8 (fun _ => 0))) a (.inr (8, [.ref (a + 1), .ref (a + 2), .null, .null, .null, .int 0]))).2 (a + 2) = some (cI 8 (fun _ => 0)) := by rw [xup_ne _ _ (by omega)]; simp [xnew, zk1]
  have ok2 : ∀ q, a < q → q < a + 2 → (xup (xnew k1 (cI 8 (fun _ => 0))) a (.inr (8, [.ref (a + 1), .ref (a + 2), .null, .null, .null, .int 0]))).2 q = k1.2 q := fun q h1 h2 => by rw [xup_ne _ _ (by omega), xnew_ne _ (by omega)]
  generalize xup (xnew k1 (cI 8 (fun _ => 0))) a (.inr (8, [.ref (a + 1), .ref (a + 2), .null, .null, .null, .int 0])) = k2 at *
  refine ex_aload_n dLexi_init_20 rfl ?_
  refine ex_bipush (v := nI 8) dLexi_init_21 (by decide) ?_
  refine ex_anew (t := 2) dLexi_init_23 cl_Lexi_18 aw_Line (fun _ => rfl) rfl (by omega) (Nat.le_of_ble_eq_true rfl) (Nat.le_of_ble_eq_true rfl) ?_
  rw [zk2]
  have ck3 : (xnew k2 (cQ 8 (fun _ => none))).2 a = some (.inr (8, [.ref (a + 1), .ref (a + 2), .null, .null, .null, .int 0])) := by rw [xnew_ne _ (by omega)]; exact bk2
  refine ex_put (fs' := [_, _, _, _, _, _]) dLexi_init_26 fp_Lexi_20 ck3 rfl rfl (Nat.le_of_ble_eq_true rfl) rfl ?_
  have zk3 : (xup (xnew k2 (cQ 8 (fun _ => none))) a (.inr (8, [.ref (a + 1), .ref (a + 2), .ref (a + 3), .null, .null, .int 0]))).1 = a + 4 := by rw [xup_1]; show _ + 1 = _; omega
  have bk3 : (xup (xnew k2 (cQ 8 (fun _ => none))) a (.inr (8, [.ref (a + 1), .ref (a + 2), .ref (a + 3), .null, .null, .int 0]))).2 a = some (.inr (8, [.ref (a + 1), .ref (a + 2), .ref (a + 3), .null, .null, .int 0])) := xup_self _ _ _
  have fk3 : ∀ q, q < a → (xup (xnew k2 (cQ 8 (fun _ => none))) a (.inr (8, [.ref (a + 1), .ref (a + 2), .ref (a + 3), .null, .null, .int 0]))).2 q = h.2 q := fun q hq => by rw [xup_ne _ _ (by omega), xnew_ne _ (by omega)]; exact fk2 q hq
  have ik3 : (xup (xnew k2 (cQ 8 (fun _ => none))) a (.inr (8, [.ref (a + 1), .ref (a + 2), .ref (a + 3), .null, .null, .int 0]))).2 (a + 3) = some (cQ 8 (fun _ => none)) := by rw [xup_ne _ _ (by omega)]; simp [xnew, zk2]
  have ok3 : ∀ q, a < q → q < a + 3 → (xup (xnew k2 (cQ 8 (fun _ => none))) a (.inr (8, [.ref (a + 1), .ref (a + 2), .ref (a + 3), .null, .null, .int 0]))).2 q = k2.2 q := fun q h1 h2 => by rw [xup_ne _ _ (by omega), xnew_ne _ (by omega)]
  generalize xup (xnew k2 (cQ 8 (fun _ => none))) a (.inr (8, [.ref (a + 1), .ref (a + 2), .ref (a + 3), .null, .null, .int 0])) = k3 at *
  refine ex_aload_n dLexi_init_29 rfl ?_
  refine ex_iconst (v := nI 4) dLexi_init_30 (by decide) ?_
  refine ex_newi dLexi_init_31 aw_int rfl (by omega) (Nat.le_of_ble_eq_true rfl) (Nat.le_of_ble_eq_true rfl) ?_
  rw [zk3]
  have ck4 : (xnew k3 (cI 4 (fun _ => 0))).2 a = some (.inr (8, [.ref (a + 1), .ref (a + 2), .ref (a + 3), .null, .null, .int 0])) := by rw [xnew_ne _ (by omega)]; exact bk3
  refine ex_put (fs' := [_, _, _, _, _, _]) dLexi_init_33 fp_Lexi_24 ck4 rfl rfl (Nat.le_of_ble_eq_true rfl) rfl ?_
  have zk4 : (xup (xnew k3 (cI 4 (fun _ => 0))) a (.inr (8, [.ref (a + 1), .ref (a + 2), .ref (a + 3), .ref (a + 4), .null, .int 0]))).1 = a + 5 := by rw [xup_1]; show _ + 1 = _; omega
  have bk4 : (xup (xnew k3 (cI 4 (fun _ => 0))) a (.inr (8, [.ref (a + 1), .ref (a + 2), .ref (a + 3), .ref (a + 4), .null, .int 0]))).2 a = some (.inr (8, [.ref (a + 1), .ref (a + 2), .ref (a + 3), .ref (a + 4), .null, .int 0])) := xup_self _ _ _
  have fk4 : ∀ q, q < a → (xup (xnew k3 (cI 4 (fun _ => 0))) a (.inr (8, [.ref (a + 1), .ref (a + 2), .ref (a + 3), .ref (a + 4), .null, .int 0]))).2 q = h.2 q := fun q hq => by rw [xup_ne _ _ (by omega), xnew_ne _ (by omega)]; exact fk3 q hq
  have ik4 : (xup (xnew k3 (cI 4 (fun _ => 0))) a (.inr (8, [.ref (a + 1), .ref (a + 2), .ref (a + 3), .ref (a + 4), .null, .int 0]))).2 (a + 4) = some (cI 4 (fun _ => 0)) := by rw [xup_ne _ _ (by omega)]; simp [xnew, zk3]
  have ok4 : ∀ q, a < q → q < a + 4 → (xup (xnew k3 (cI 4 (fun _ => 0))) a (.inr (8, [.ref (a + 1), .ref (a + 2), .ref (a + 3), .ref (a + 4), .null, .int 0]))).2 q = k3.2 q := fun q h1 h2 => by rw [xup_ne _ _ (by omega), xnew_ne _ (by omega)]
  generalize xup (xnew k3 (cI 4 (fun _ => 0))) a (.inr (8, [.ref (a + 1), .ref (a + 2), .ref (a + 3), .ref (a + 4), .null, .int 0])) = k4 at *
  refine ex_aload_n dLexi_init_36 rfl ?_
  refine ex_new dLexi_init_37 nw_Lexi_18 (Nat.le_of_ble_eq_true rfl) (Nat.le_of_ble_eq_true rfl) ?_
  rw [zk4]
  refine ex_dup dLexi_init_40 rfl ?_
  refine ex_iconst (v := nI 4) dLexi_init_41 (by decide) ?_
  refine ex_i1 dLexi_init_42 ii_Lexi_27 cd_Line_init ar_Line_init (c_Line_init (d := d) (a := a + 5) (N := 4) (by omega) (by simp [xnew, zk4]) (by simp [xnew, zk4])) (by dsimp only; omega) (Nat.le_of_ble_eq_true rfl) (Nat.le_of_ble_eq_true rfl) (Nat.le_of_ble_eq_true rfl) (fun E h9 q9 => by simp at q9) (fun v9 g1 hq => ?_)
  obtain ⟨e, N1, z1, F1⟩ := hq
  cases e
  have w1 : ∀ q : Nat, q < a + 5 → g1.2 q = k4.2 q := fun q hq => by rw [F1 q (by omega), xnew_ne _ (by omega)]
  have S1 : Sm g1 (xup g1 a (cLexi a 0)) a (a + 1) := Sm.up (by omega) (by omega)
  refine ex_put (fs' := [_, _, _, _, _, _]) dLexi_init_45 fp_Lexi_30 ((w1 a (by omega)).trans bk4) rfl rfl (Nat.le_of_ble_eq_true rfl) rfl ?_
  refine ex_iconst (v := nI 0) dLexi_init_48 (by decide) ?_
  refine ex_istore_n (L' := [_, _]) dLexi_init_49 (by decide) rfl ?_
  have w2 : ∀ q : Nat, a < q → q < a + 5 → (xup g1 a (cLexi a 0)).2 q = k4.2 q := fun q h1 h2 => (S1.2 q (by omega)).trans (w1 q (by omega))
  refine loop 8 0 _ (fun _ => none) _ _ (by omega) rfl rfl (by rw [xup_1, z1]) (xup_self _ _ _) ⟨fun _ => 0, ?_, fun j hj => absurd hj (Nat.not_lt_zero _)⟩ ⟨fun _ => 0, ?_, fun j hj => absurd hj (Nat.not_lt_zero _)⟩ ?_ ⟨fun _ => 0, ?_, fun j hj => absurd hj (Nat.not_lt_zero _)⟩ (N1.sm S1 (by omega)) (fun j hj => absurd hj (Nat.not_lt_zero _)) (fun j hj => absurd hj (Nat.not_lt_zero _)) (fun q hq => (S1.2 q (by omega)).trans ((w1 q (by omega)).trans (fk4 q hq)))
  · exact (w2 _ (by omega) (by omega)).trans (by rw [ok4 _ (by omega) (by omega), ok3 _ (by omega) (by omega), ok2 _ (by omega) (by omega)]; exact ik1)
  · exact (w2 _ (by omega) (by omega)).trans (by rw [ok4 _ (by omega) (by omega), ok3 _ (by omega) (by omega)]; exact ik2)
  · exact (w2 _ (by omega) (by omega)).trans (by rw [ok4 _ (by omega) (by omega)]; exact ik3)
  · exact (w2 _ (by omega) (by omega)).trans ik4
end LEXI
