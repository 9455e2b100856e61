/-! Whole searches; what a search leaves, and constructors. -/
def S0 (h : xH) (a x ci : Nat) (rest : List Value) : Prop := ∃ w : List Nat, h.2 a = some (.inr (ci, .ref (x + 1) :: .ref (x + 4) :: .ref (a + 1) :: .ref (a + 3) :: .ref (a + 4) :: .ref (a + 5) :: rest)) ∧ Ln h (a + 1) 4 w ∧ IA h (a + 3) 9 0 (fun _ => 0) ∧ IA h (a + 4) 10 0 (fun _ => 0)
def Ci (h : xH) (a x : Nat) (s : Bool × Bool × Nat) : Prop := S0 h a x 6 [.int (bI s.1), .int (bI s.2.1), .int (nI s.2.2)] ∧ (∃ u, Ln h (a + 5) 5 u) ∧ s.2.2 < 16
def Wi (h : xH) (a x g : Nat) : Prop := S0 h a x 7 [.ref g] ∧ ∃ u, Ln h (a + 5) 5 u
theorem Sx.idle {h : xH} {a x ci : Nat} {rest : List Value} {W : xW} {w row : List Nat} (H : Sx h a x ci rest W w row) : S0 h a x ci rest := ⟨w, H.1, H.2.1, H.2.2.1.to (Nat.zero_le _) (fun j hj => absurd hj (Nat.not_lt_zero _)), H.2.2.2.1.to (Nat.zero_le _) (fun j hj => absurd hj (Nat.not_lt_zero _))⟩
theorem S0.eq {h h' : xH} {a x ci : Nat} {rest : List Value} (H : S0 h a x ci rest) (e : ∀ q : Nat, a ≤ q → q < a + 5 → h'.2 q = h.2 q) : S0 h' a x ci rest := by
  obtain ⟨w, h1, h2, h3, h4⟩ := H
  exact ⟨w, (e _ (by omega) (by omega)).trans h1, h2.eq (e _ (by omega) (by omega)) (e _ (by omega) (by omega)), h3.at (e _ (by omega) (by omega)), h4.at (e _ (by omega) (by omega))⟩
theorem Ci.eq {h h' : xH} {a x : Nat} {s : Bool × Bool × Nat} (H : Ci h a x s) (e : ∀ q : Nat, a ≤ q → q < a + 7 → h'.2 q = h.2 q) : Ci h' a x s := by
  obtain ⟨h1, ⟨u, h2⟩, h3⟩ := H
  exact ⟨h1.eq (fun q a b => e q a (by omega)), ⟨u, h2.eq (e _ (by omega) (by omega)) (e _ (by omega) (by omega))⟩, h3⟩
theorem Wi.eq {h h' : xH} {a x g : Nat} (H : Wi h a x g) (e : ∀ q : Nat, a ≤ q → q < a + 7 → h'.2 q = h.2 q) : Wi h' a x g := by
  obtain ⟨h1, ⟨u, h2⟩⟩ := H
  exact ⟨h1.eq (fun q a b => e q a (by omega)), ⟨u, h2.eq (e _ (by omega) (by omega)) (e _ (by omega) (by omega))⟩⟩
theorem Sc.idle {h : xH} {a x : Nat} {W : xW} {w u row : List Nat} {s : Bool × Bool × Nat} (H : Sc h a x W w u row s) : Ci h a x s := ⟨H.1.idle, ⟨u, H.2.1⟩, H.2.2.1⟩
theorem Sw.idle {h : xH} {a x g : Nat} {W : xW} {w row : List Nat} {s : List Nat × Bool} (H : Sw h a x g W w row s) : Wi h a x g := ⟨H.1.idle, H.2.1⟩
def cmp (W : xW) (w u : List Nat) : Bool × Bool × Nat := sExtC W (w.take 4) (u.take 5) 9 [] 0 0 (false, false, 15)
def wrt (W : xW) (w : List Nat) (s : List Nat × Bool) : List Nat × Bool := sExtW W (w.take 4) 9 [] 0 0 s
theorem take_lt {w : List Nat} {n : Nat} (h : ∀ i, w.getD i 0 < 8) (i : Nat) : (w.take n).getD i 0 < 8 := by
  by_cases hi : i < n
  · rw [List.getD_eq_getElem?_getD, List.getElem?_take_of_lt hi, ← List.getD_eq_getElem?_getD]; exact h i
  · rw [getD_len (by rw [List.length_take]; omega)]; decide
section FIND
variable {l : Launch} {G : xG} {d : Nat} {h : xH} {a x g : Nat} {W : xW}
theorem c_goThrough_Comp {b N : Nat} {u v : List Nat} {s : Bool × Bool × Nat} (hax : x + 17 ≤ a) (hb : b + 2 ≤ a ∨ a + 7 ≤ b) (hv : ∀ i, v.getD i 0 < 8) (hu : ∀ i, u.getD i 0 < 8) (hs : s.2.2 < 16) (HE : Ev h x W) (H : S0 h a x 6 [.int (bI s.1), .int (bI s.2.1), .int (nI s.2.2)]) (HU : Ln h (a + 5) 5 u) (HV : Ln h b N v) : xMet l G mSear_goThrough (d + 23) 0 0 [.ref a, .ref b] h (fun o h' => o = .inl none ∧ Sc h' a x W (v.take 4) u [] (sExtC W (v.take 4) u 9 [] 0 0 s) ∧ Sm h h' a (a + 5)) := by
  obtain ⟨w0, h1, h2, h3, h4⟩ := H
  have L1 := h2
  obtain ⟨f1, l1, -⟩ := L1
  refine xMet_of (L := [_, _]) (by decide) (Nat.le_of_ble_eq_true rfl) rfl ?_
  refine ex_aload_n dSear_goThrough_0 rfl ?_
  refine ex_get dSear_goThrough_1 fg_Sear_14_Comp h1 rfl ?_
  refine ex_aload_n dSear_goThrough_4 rfl ?_
  refine ex_v1 dSear_goThrough_5 iv_Sear_35 cd_Line_copy ar_Line_copy l1 (c_Line_copy (d := d) h2 HV (by omega)) (by dsimp only; omega) (Nat.le_of_ble_eq_true rfl) (Nat.le_refl _) (Nat.le_refl _) (fun E h9 q9 => by simp at q9) (fun v9 g1 hq => ?_)
  obtain ⟨e, L2, S1⟩ := hq
  cases e
  have k1 := (S1.2 a (by omega)).trans h1
  have HE1 := HE.sm S1 (by omega)
  have o2 := HE1.o2
  have o3 := HE1.2.2.2.1.o
  obtain ⟨f4, k4, -⟩ := h4.at (S1.2 (a + 4) (by omega))
  refine ex_aload_n dSear_goThrough_8 rfl ?_
  refine ex_get dSear_goThrough_9 fg_Sear_24_Comp k1 rfl ?_
  refine ex_iconst (v := nI 0) dSear_goThrough_12 (by decide) ?_
  refine ex_aload_n dSear_goThrough_13 rfl ?_
  refine ex_get dSear_goThrough_14 fg_Sear_31_Comp k1 rfl ?_
  refine ex_get dSear_goThrough_17 fg_Sear_39 o2 rfl ?_
  refine ex_v0 dSear_goThrough_20 iv_Sear_44 cd_Patt_first ar_Patt_first o3 (c_Patt_first (d := d) HE1.2.2.2.1) (by dsimp only; omega) (Nat.le_of_ble_eq_true rfl) (Nat.le_refl _) (Nat.le_refl _) (fun E h9 q9 => by simp at q9) (fun v8 hp8 hq => ?_)
  obtain ⟨e, e1⟩ := hq
  cases e
  rw [e1]
  refine ex_iastore dSear_goThrough_23 k4 rfl (by omega) (by omega) ?_
  have S2 : Sm g1 (xup g1 (a + 4) (cI 10 (upd f4 0 (nI (pfst W.2.2.2.1))))) (a + 4) (a + 5) := Sm.up (by omega) (by omega)
  have IA0 : IA (xup g1 (a + 4) (cI 10 (upd f4 0 (nI (pfst W.2.2.2.1))))) (a + 4) 10 ([] : List Nat).length.succ (fun j => sbef W (([] : List Nat).take j)) := by
    refine ⟨_, xup_self _ _ _, fun j hj => ?_⟩
    have e : j = 0 := by simp at hj; omega
    subst e; rw [pk_us]; rfl
  have X : Sx (xup g1 (a + 4) (cI 10 (upd f4 0 (nI (pfst W.2.2.2.1))))) a x 6 _ W (v.take 4) [] := ⟨(S2.2 _ (by omega)).trans k1, L2.sm S2 (by omega), ((h3.at (S1.2 (a + 3) (by omega))).at (S2.2 (a + 3) (by omega))).to (Nat.le_refl _) (fun j hj => absurd hj (Nat.not_lt_zero _)), IA0, fun p hp => by simp at hp, by simp, take_lt hv⟩
  have HE2 := HE1.sm S2 (by omega)
  refine ex_aload_n dSear_goThrough_24 rfl ?_
  refine ex_iconst (v := nI 0) dSear_goThrough_25 (by decide) ?_
  refine ex_iconst (v := nI 0) dSear_goThrough_26 (by decide) ?_
  refine ex_iconst (v := nI 0) dSear_goThrough_27 (by decide) ?_
  refine ex_p3 dSear_goThrough_28 ip_Sear_50 cd_Sear_extend ar_Sear_extend X.1 (c_extend_Comp (d := d) (u := u) hax 9 [] 0 0 0 s _ rfl rfl (by omega) (by omega) HE2 ⟨X, (HU.sm S1 (by omega)).sm S2 (by omega), hs, hu⟩) (by dsimp only; omega) (Nat.le_of_ble_eq_true rfl) (Nat.le_refl _) (Nat.le_refl _) (fun E h9 q9 => by simp at q9) (fun v7 g3 hq => ?_)
  obtain ⟨e, X3, S3⟩ := hq
  cases e
  exact ex_vret dSear_goThrough_31 rfl (Nat.le_refl _) (Nat.le_refl _) ⟨rfl, X3, ((S1.wide (by omega) (by omega)).trans (S2.wide (by omega) (by omega))).trans S3⟩
theorem c_goThrough_Writ {b N : Nat} {v : List Nat} {s : List Nat × Bool} (hgx : x + 17 ≤ g) (hga : g + 2 ≤ a) (hb : b + 2 ≤ a ∨ a + 7 ≤ b) (hv : ∀ i, v.getD i 0 < 8) (HE : Ev h x W) (H : Wi h a x g) (HR : Rs h g s.1 s.2) (HV : Ln h b N v) : xMet l G mSear_goThrough (d + 23) 0 0 [.ref a, .ref b] h (fun o h' => o = .inl none ∧ Sw h' a x g W (v.take 4) [] (wrt W v s) ∧ F2 h h' a g) := by
  obtain ⟨H, u, HU⟩ := H
  obtain ⟨w0, h1, h2, h3, h4⟩ := H
  have L1 := h2
  obtain ⟨f1, l1, -⟩ := L1
  refine xMet_of (L := [_, _]) (by decide) (Nat.le_of_ble_eq_true rfl) rfl ?_
  refine ex_aload_n dSear_goThrough_0 rfl ?_
  refine ex_get dSear_goThrough_1 fg_Sear_14_Writ h1 rfl ?_
  refine ex_aload_n dSear_goThrough_4 rfl ?_
  refine ex_v1 dSear_goThrough_5 iv_Sear_35 cd_Line_copy ar_Line_copy l1 (c_Line_copy (d := d) h2 HV (by omega)) (by dsimp only; omega) (Nat.le_of_ble_eq_true rfl) (Nat.le_refl _) (Nat.le_refl _) (fun E h9 q9 => by simp at q9) (fun v9 g1 hq => ?_)
  obtain ⟨e, L2, S1⟩ := hq
  cases e
  have k1 := (S1.2 a (by omega)).trans h1
  have HE1 := HE.sm S1 (by omega)
  have o2 := HE1.o2
  have o3 := HE1.2.2.2.1.o
  obtain ⟨f4, k4, -⟩ := h4.at (S1.2 (a + 4) (by omega))
  refine ex_aload_n dSear_goThrough_8 rfl ?_
  refine ex_get dSear_goThrough_9 fg_Sear_24_Writ k1 rfl ?_
  refine ex_iconst (v := nI 0) dSear_goThrough_12 (by decide) ?_
  refine ex_aload_n dSear_goThrough_13 rfl ?_
  refine ex_get dSear_goThrough_14 fg_Sear_31_Writ k1 rfl ?_
  refine ex_get dSear_goThrough_17 fg_Sear_39 o2 rfl ?_
  refine ex_v0 dSear_goThrough_20 iv_Sear_44 cd_Patt_first ar_Patt_first o3 (c_Patt_first (d := d) HE1.2.2.2.1) (by dsimp only; omega) (Nat.le_of_ble_eq_true rfl) (Nat.le_refl _) (Nat.le_refl _) (fun E h9 q9 => by simp at q9) (fun v8 hp8 hq => ?_)
  obtain ⟨e, e1⟩ := hq
  cases e
  rw [e1]
  refine ex_iastore dSear_goThrough_23 k4 rfl (by omega) (by omega) ?_
  have S2 : Sm g1 (xup g1 (a + 4) (cI 10 (upd f4 0 (nI (pfst W.2.2.2.1))))) (a + 4) (a + 5) := Sm.up (by omega) (by omega)
  have IA0 : IA (xup g1 (a + 4) (cI 10 (upd f4 0 (nI (pfst W.2.2.2.1))))) (a + 4) 10 ([] : List Nat).length.succ (fun j => sbef W (([] : List Nat).take j)) := by
    refine ⟨_, xup_self _ _ _, fun j hj => ?_⟩
    have e : j = 0 := by simp at hj; omega
    subst e; rw [pk_us]; rfl
  have X : Sx (xup g1 (a + 4) (cI 10 (upd f4 0 (nI (pfst W.2.2.2.1))))) a x 7 _ W (v.take 4) [] := ⟨(S2.2 _ (by omega)).trans k1, L2.sm S2 (by omega), ((h3.at (S1.2 (a + 3) (by omega))).at (S2.2 (a + 3) (by omega))).to (Nat.le_refl _) (fun j hj => absurd hj (Nat.not_lt_zero _)), IA0, fun p hp => by simp at hp, by simp, take_lt hv⟩
  have HE2 := HE1.sm S2 (by omega)
  refine ex_aload_n dSear_goThrough_24 rfl ?_
  refine ex_iconst (v := nI 0) dSear_goThrough_25 (by decide) ?_
  refine ex_iconst (v := nI 0) dSear_goThrough_26 (by decide) ?_
  refine ex_iconst (v := nI 0) dSear_goThrough_27 (by decide) ?_
  refine ex_p3 dSear_goThrough_28 ip_Sear_50 cd_Sear_extend ar_Sear_extend X.1 (c_extend_Writ (d := d) (g := g) hgx hga 9 [] 0 0 0 s _ rfl rfl (by omega) (by omega) HE2 ⟨X, ⟨u, (HU.sm S1 (by omega)).sm S2 (by omega)⟩, (HR.sm S1 (by omega)).sm S2 (by omega)⟩) (by dsimp only; omega) (Nat.le_of_ble_eq_true rfl) (Nat.le_refl _) (Nat.le_refl _) (fun E h9 q9 => by simp at q9) (fun v7 g3 hq => ?_)
  obtain ⟨e, X3, S3⟩ := hq
  cases e
  exact ex_vret dSear_goThrough_31 rfl (Nat.le_refl _) (Nat.le_refl _) ⟨rfl, X3, ((F2.of S1 (by omega)).trans (F2.of S2 (by omega))).trans S3⟩
theorem c_Comp_finds {b c N M : Nat} {v t : List Nat} {s : Bool × Bool × Nat} (hax : x + 17 ≤ a) (hb : b + 2 ≤ a ∨ a + 7 ≤ b) (hc : c + 2 ≤ a ∨ a + 7 ≤ c) (hv : ∀ i, v.getD i 0 < 8) (ht : ∀ i, t.getD i 0 < 8) (HE : Ev h x W) (H : Ci h a x s) (HV : Ln h b N v) (HT : Ln h c M t) : xMet l G mComp_finds (d + 24) 0 0 [.ref a, .ref b, .ref c] h (fun o h' => o = .inl (some (.int (bI (cmp W v t).2.1))) ∧ Ci h' a x (cmp W v t) ∧ Sm h h' a (a + 7)) := by
  obtain ⟨⟨w0, h1, h2, h3, h4⟩, ⟨u, h5⟩, h6⟩ := H
  have L1 := h5
  obtain ⟨f1, l1, -⟩ := L1
  refine xMet_of (L := [_, _, _]) (by decide) (Nat.le_of_ble_eq_true rfl) rfl ?_
  refine ex_aload_n dComp_finds_0 rfl ?_
  refine ex_get dComp_finds_1 fg_Comp_14 h1 rfl ?_
  refine ex_aload_n dComp_finds_4 rfl ?_
  refine ex_v1 dComp_finds_5 iv_Comp_20 cd_Line_copy ar_Line_copy l1 (c_Line_copy (d := d) h5 HT (by omega)) (by dsimp only; omega) (Nat.le_of_ble_eq_true rfl) (Nat.le_refl _) (Nat.le_refl _) (fun E h9 q9 => by simp at q9) (fun v9 g1 hq => ?_)
  obtain ⟨e, L2, S1⟩ := hq
  cases e
  have k1 := (S1.2 a (by omega)).trans h1
  refine ex_aload_n dComp_finds_8 rfl ?_
  refine ex_iconst (v := nI 0) dComp_finds_9 (by decide) ?_
  refine ex_put (fs' := [_, _, _, _, _, _, _, _, _]) dComp_finds_10 (fp_Comp_24 _) k1 (bI_nar false) (bI_fits false) (Nat.le_of_ble_eq_true rfl) rfl ?_
  refine ex_aload_n dComp_finds_13 rfl ?_
  refine ex_iconst (v := nI 0) dComp_finds_14 (by decide) ?_
  refine ex_put (fs' := [_, _, _, _, _, _, _, _, _]) dComp_finds_15 (fp_Comp_28 _) (xup_self _ _ _) (bI_nar false) (bI_fits false) (Nat.le_of_ble_eq_true rfl) rfl ?_
  refine ex_aload_n dComp_finds_18 rfl ?_
  refine ex_bipush (v := nI 15) dComp_finds_19 (by decide) ?_
  refine ex_put (fs' := [_, _, _, _, _, _, _, _, _]) dComp_finds_21 (fp_Comp_31 _) (xup_self _ _ _) rfl rfl (Nat.le_of_ble_eq_true rfl) rfl ?_
  have S2 : Sm g1 (xup (xup (xup g1 a (.inr (6, [.ref (x + 1), .ref (x + 4), .ref (a + 1), .ref (a + 3), .ref (a + 4), .ref (a + 5), .int (bI false), .int (bI s.2.1), .int (nI s.2.2)]))) a (.inr (6, [.ref (x + 1), .ref (x + 4), .ref (a + 1), .ref (a + 3), .ref (a + 4), .ref (a + 5), .int (bI false), .int (bI false), .int (nI s.2.2)]))) a (.inr (6, [.ref (x + 1), .ref (x + 4), .ref (a + 1), .ref (a + 3), .ref (a + 4), .ref (a + 5), .int (bI false), .int (bI false), .int (nI 15)]))) a (a + 1) := ((Sm.up (by omega) (by omega)).trans (Sm.up (by omega) (by omega))).trans (Sm.up (by omega) (by omega))
  have SS := (S1.wide (lo' := a) (hi' := a + 7) (by omega) (by omega)).trans (S2.wide (by omega) (by omega))
  have HE2 := HE.sm SS (by omega)
  have X0 : S0 (xup (xup (xup g1 a (.inr (6, [.ref (x + 1), .ref (x + 4), .ref (a + 1), .ref (a + 3), .ref (a + 4), .ref (a + 5), .int (bI false), .int (bI s.2.1), .int (nI s.2.2)]))) a (.inr (6, [.ref (x + 1), .ref (x + 4), .ref (a + 1), .ref (a + 3), .ref (a + 4), .ref (a + 5), .int (bI false), .int (bI false), .int (nI s.2.2)]))) a (.inr (6, [.ref (x + 1), .ref (x + 4), .ref (a + 1), .ref (a + 3), .ref (a + 4), .ref (a + 5), .int (bI false), .int (bI false), .int (nI 15)]))) a x 6 [.int (bI (false, false, 15).1), .int (bI (false, false, 15).2.1), .int (nI (false, false, 15).2.2)] := ⟨w0, xup_self _ _ _, (h2.sm S1 (by omega)).sm S2 (by omega), (h3.at (S1.2 _ (by omega))).at (S2.2 _ (by omega)), (h4.at (S1.2 _ (by omega))).at (S2.2 _ (by omega))⟩
  refine ex_aload_n dComp_finds_24 rfl ?_
  refine ex_aload_n dComp_finds_25 rfl ?_
  refine ex_u1 dComp_finds_26 iu_Comp_35_Comp cd_Sear_goThrough ar_Sear_goThrough (xup_self _ _ _) (c_goThrough_Comp (d := d) (s := (false, false, 15)) (u := t.take 5) hax hb hv (take_lt ht) (by decide) HE2 X0 (L2.sm S2 (by omega)) (HV.sm SS (by omega))) (by dsimp only; omega) (Nat.le_of_ble_eq_true rfl) (Nat.le_refl _) (Nat.le_refl _) (fun E h9 q9 => by simp at q9) (fun v8 g3 hq => ?_)
  obtain ⟨e, X3, S3⟩ := hq
  cases e
  refine ex_aload_n dComp_finds_29 rfl ?_
  refine ex_get dComp_finds_30 fg_Comp_28 X3.1.1 rfl ?_
  exact ex_zret dComp_finds_33 rfl (bI_01 _) (Nat.le_refl _) (Nat.le_refl _) ⟨rfl, X3.idle, SS.trans (S3.wide (by omega) (by omega))⟩
def fbit (b : Nat) : Nat → Nat → Int32
  | 0, _ => -1
  | j + 1, i => if b.testBit i then nI i else fbit b j (i + 1)
def culp (s : Bool × Bool × Nat) : Int32 := if s.1 then fbit s.2.2 4 0 else -2
theorem c_Comp_culprit {s : Bool × Bool × Nat} (H : Ci h a x s) : xMet l G mComp_culprit d 0 0 [.ref a] h (fun o h' => o = .inl (some (.int (culp s))) ∧ h' = h) := by
  obtain ⟨⟨w0, h1, h2, h3, h4⟩, ⟨u, h5⟩, h6⟩ := H
  have loop : ∀ j i : Nat, i + j = 4 → fbit s.2.2 j i = culp s → Ex (l, G, d, 0, 0, h, fun o h' => o = .inl (some (.int (culp s))) ∧ h' = h) mComp_culprit 12 [some (.ref a), some (.int (nI i))] [] h 0 0 := by
    intro j
    induction j with
    | zero =>
      intro i hij hf
      have e : i = 4 := by omega
      subst e
      refine ex_iload_n dComp_culprit_12 rfl ?_
      refine ex_iconst (v := nI 4) dComp_culprit_13 (by decide) ?_
      refine ex_icmp_ge (tgt := 37) dComp_culprit_14 (by decide) (fun hc => ?_) (fun hc => ?_)
      · refine ex_iconst (v := -1) dComp_culprit_37 (by decide) ?_
        exact ex_iret dComp_culprit_38 rfl (Nat.le_refl _) (Nat.le_refl _) ⟨by rw [← hf]; rfl, rfl⟩
      · exact absurd (by decide) hc
    | succ j ih =>
      intro i hij hf
      refine ex_iload_n dComp_culprit_12 rfl ?_
      refine ex_iconst (v := nI 4) dComp_culprit_13 (by decide) ?_
      refine ex_icmp_ge (tgt := 37) dComp_culprit_14 (by decide) (fun hc => ?_) (fun hc => ?_)
      · exact absurd hc (nI_ge (by omega) (by omega))
      refine ex_aload_n dComp_culprit_17 rfl ?_
      refine ex_get dComp_culprit_18 fg_Comp_31 h1 rfl ?_
      refine ex_iload_n dComp_culprit_21 rfl ?_
      refine ex_ishr dComp_culprit_22 ?_
      rw [nb_shr (by omega) (by omega)]
      refine ex_iconst (v := nI 1) dComp_culprit_23 (by decide) ?_
      refine ex_iand dComp_culprit_24 ?_
      refine ex_iconst (v := nI 1) dComp_culprit_25 (by decide) ?_
      rw [nb_and]
      have hlt : (s.2.2 >>> i) &&& 1 < 2 ^ 1 := and_ltr (by decide)
      refine ex_icmp_ne (tgt := 31) dComp_culprit_26 (by decide) (fun hc2 => ?_) (fun hc2 => ?_)
      · have q : ¬ s.2.2.testBit i = true := fun q => hc2 (by rw [nb_one.mpr q])
        refine ex_iinc (L' := [_, _]) dComp_culprit_31 rfl rfl (by decide) rfl ?_
        refine ex_goto (tgt := 12) dComp_culprit_34 (by decide) ?_
        rw [show nI i + Int32.ofInt 1 = nI (i + 1) from nI_1 i]
        exact ih (i + 1) (by omega) (by rw [← hf, fbit, if_neg q])
      have q : s.2.2.testBit i = true := nb_one.mp ((nI_eq (by omega) (by omega)).mp hc2)
      refine ex_iload_n dComp_culprit_29 rfl ?_
      exact ex_iret dComp_culprit_30 rfl (Nat.le_refl _) (Nat.le_refl _) ⟨by rw [← hf, fbit, if_pos q], rfl⟩
  refine xMet_of (L := [_, _]) (by decide) (Nat.le_of_ble_eq_true rfl) rfl ?_
  refine ex_aload_n dComp_culprit_0 rfl ?_
  refine ex_get dComp_culprit_1 fg_Comp_24 h1 rfl ?_
  refine ex_if_ne (tgt := 10) dComp_culprit_4 (by decide) (fun hc => ?_) (fun hc => ?_)
  · have hs : s.1 = true := by cases hq9 : s.1; rw [hq9] at hc; exact absurd rfl hc; rfl
    refine ex_iconst (v := nI 0) dComp_culprit_10 (by decide) ?_
    refine ex_istore_n (L' := [_, _]) dComp_culprit_11 (by decide) rfl ?_
    exact loop 4 0 (by omega) (by rw [culp, if_pos hs])
  · have hs : s.1 = false := bI_0.mp hc
    refine ex_bipush (v := -2) dComp_culprit_7 (by decide) ?_
    exact ex_iret dComp_culprit_9 rfl (Nat.le_refl _) (Nat.le_refl _) ⟨by rw [culp, hs]; rfl, rfl⟩
theorem c_Sear_init_Comp (hz : h.1 = a + 1) (h1 : h.2 a = some (.inr (6, [.null, .null, .null, .null, .null, .null, .int 0, .int 0, .int 0]))) : xMet l G mSear_init (d + 1) 4 25 [.ref a, .ref (x + 1), .ref (x + 4)] h (fun o h' => o = .inl none ∧ h'.2 a = some (.inr (6, [.ref (x + 1), .ref (x + 4), .ref (a + 1), .ref (a + 3), .ref (a + 4), .null, .int 0, .int 0, .int 0])) ∧ Ln h' (a + 1) 4 [] ∧ IA h' (a + 3) 9 0 (fun _ => 0) ∧ IA h' (a + 4) 10 0 (fun _ => 0) ∧ h'.1 = a + 5 ∧ ∀ q : Nat, q < a → h'.2 q = h.2 q) := by
  refine xMet_of (L := [_, _, _]) (by decide) (Nat.le_of_ble_eq_true rfl) rfl ?_
  refine ex_aload_n dSear_init_0 rfl ?_
  refine ex_objInit dSear_init_1 oi_Sear_3 oi_1 oi_2 (by decide) ?_
  refine ex_aload_n dSear_init_4 rfl ?_
  refine ex_new dSear_init_5 nw_Sear_9 (Nat.le_of_ble_eq_true rfl) (Nat.le_of_ble_eq_true rfl) ?_
  rw [hz]
  refine ex_dup dSear_init_8 rfl ?_
  refine ex_iconst (v := nI 4) dSear_init_9 (by decide) ?_
  refine ex_i1 dSear_init_10 ii_Sear_11 cd_Line_init ar_Line_init (c_Line_init (d := d) (a := a + 1) (N := 4) (by omega) (by simp [xnew, hz]) (by simp [xnew, hz])) (by dsimp only; omega) (Nat.le_of_ble_eq_true rfl) (Nat.le_of_ble_eq_true rfl) (Nat.le_of_ble_eq_true rfl) (fun E h9 q9 => by simp at q9) (fun v9 g1 hq => ?_)
  obtain ⟨e, L1, z1, F1⟩ := hq
  cases e
  have w1 : ∀ q : Nat, q < a + 1 → g1.2 q = h.2 q := fun q hq => by rw [F1 q (by omega), xnew_ne _ (by omega)]
  refine ex_put (fs' := [_, _, _, _, _, _, _, _, _]) dSear_init_13 fp_Sear_14_Comp ((w1 a (by omega)).trans h1) rfl rfl (Nat.le_of_ble_eq_true rfl) rfl ?_
  refine ex_aload_n dSear_init_16 rfl ?_
  refine ex_bipush (v := nI 9) dSear_init_17 (by decide) ?_
  have S1 : Sm g1 (xup g1 a (.inr (6, [.null, .null, .ref (a + 1), .null, .null, .null, .int 0, .int 0, .int 0]))) a (a + 1) := Sm.up (by omega) (by omega)
  have L1a := L1.sm S1 (by omega)
  have z1a : (xup g1 a (.inr (6, [.null, .null, .ref (a + 1), .null, .null, .null, .int 0, .int 0, .int 0]))).1 = a + 3 := z1
  have b1 : (xup g1 a (.inr (6, [.null, .null, .ref (a + 1), .null, .null, .null, .int 0, .int 0, .int 0]))).2 a = _ := xup_self _ _ _
  have w2 : ∀ q : Nat, q < a → (xup g1 a (.inr (6, [.null, .null, .ref (a + 1), .null, .null, .null, .int 0, .int 0, .int 0]))).2 q = h.2 q := fun q hq => (S1.2 q (by omega)).trans (w1 q (by omega))
  generalize xup g1 a (.inr (6, [.null, .null, .ref (a + 1), .null, .null, .null, .int 0, .int 0, .int 0])) = k0 at *
  refine ex_newi dSear_init_19 aw_int rfl (by omega) (Nat.le_of_ble_eq_true rfl) (Nat.le_of_ble_eq_true rfl) ?_
  rw [z1a]
  have ck1 : (xnew k0 (cI 9 (fun _ => 0))).2 a = some (.inr (6, [.null, .null, .ref (a + 1), .null, .null, .null, .int 0, .int 0, .int 0])) := by rw [xnew_ne _ (by omega)]; exact b1
  refine ex_put (fs' := [_, _, _, _, _, _, _, _, _]) dSear_init_21 fp_Sear_20_Comp ck1 rfl rfl (Nat.le_of_ble_eq_true rfl) rfl ?_
  refine ex_aload_n dSear_init_24 rfl ?_
  refine ex_bipush (v := nI 10) dSear_init_25 (by decide) ?_
  have zk1 : (xup (xnew k0 (cI 9 (fun _ => 0))) a (.inr (6, [.null, .null, .ref (a + 1), .ref (a + 3), .null, .null, .int 0, .int 0, .int 0]))).1 = a + 4 := by rw [xup_1]; show _ + 1 = _; omega
  have bk1 : (xup (xnew k0 (cI 9 (fun _ => 0))) a (.inr (6, [.null, .null, .ref (a + 1), .ref (a + 3), .null, .null, .int 0, .int 0, .int 0]))).2 a = some (.inr (6, [.null, .null, .ref (a + 1), .ref (a + 3), .null, .null, .int 0, .int 0, .int 0])) := xup_self _ _ _
  have fk1 : ∀ q, q < a → (xup (xnew k0 (cI 9 (fun _ => 0))) a (.inr (6, [.null, .null, .ref (a + 1), .ref (a + 3), .null, .null, .int 0, .int 0, .int 0]))).2 q = h.2 q := fun q hq => by rw [xup_ne _ _ (by omega), xnew_ne _ (by omega)]; exact w2 q hq
  have ik1 : (xup (xnew k0 (cI 9 (fun _ => 0))) a (.inr (6, [.null, .null, .ref (a + 1), .ref (a + 3), .null, .null, .int 0, .int 0, .int 0]))).2 (a + 3) = some (cI 9 (fun _ => 0)) := by rw [xup_ne _ _ (by omega)]; simp [xnew, z1a]
  have ok1 : ∀ q, a < q → q < a + 3 → (xup (xnew k0 (cI 9 (fun _ => 0))) a (.inr (6, [.null, .null, .ref (a + 1), .ref (a + 3), .null, .null, .int 0, .int 0, .int 0]))).2 q = k0.2 q := fun q h1 h2 => by rw [xup_ne _ _ (by omega), xnew_ne _ (by omega)]
  generalize xup (xnew k0 (cI 9 (fun _ => 0))) a (.inr (6, [.null, .null, .ref (a + 1), .ref (a + 3), .null, .null, .int 0, .int 0, .int 0])) = k1 at *
  refine ex_newi dSear_init_27 aw_int rfl (by omega) (Nat.le_of_ble_eq_true rfl) (Nat.le_of_ble_eq_true rfl) ?_
  rw [zk1]
  have ck2 : (xnew k1 (cI 10 (fun _ => 0))).2 a = some (.inr (6, [.null, .null, .ref (a + 1), .ref (a + 3), .null, .null, .int 0, .int 0, .int 0])) := by rw [xnew_ne _ (by omega)]; exact bk1
  refine ex_put (fs' := [_, _, _, _, _, _, _, _, _]) dSear_init_29 fp_Sear_24_Comp ck2 rfl rfl (Nat.le_of_ble_eq_true rfl) rfl ?_
  have zk2 : (xup (xnew k1 (cI 10 (fun _ => 0))) a (.inr (6, [.null, .null, .ref (a + 1), .ref (a + 3), .ref (a + 4), .null, .int 0, .int 0, .int 0]))).1 = a + 5 := by rw [xup_1]; show _ + 1 = _; omega
  have bk2 : (xup (xnew k1 (cI 10 (fun _ => 0))) a (.inr (6, [.null, .null, .ref (a + 1), .ref (a + 3), .ref (a + 4), .null, .int 0, .int 0, .int 0]))).2 a = some (.inr (6, [.null, .null, .ref (a + 1), .ref (a + 3), .ref (a + 4), .null, .int 0, .int 0, .int 0])) := xup_self _ _ _
  have fk2 : ∀ q, q < a → (xup (xnew k1 (cI 10 (fun _ => 0))) a (.inr (6, [.null, .null, .ref (a + 1), .ref (a + 3), .ref (a + 4), .null, .int 0, .int 0, .int 0]))).2 q = h.2 q := fun q hq => by rw [xup_ne _ _ (by omega), xnew_ne _ (by omega)]; exact fk1 q hq
  have ik2 : (xup (xnew k1 (cI 10 (fun _ => 0))) a (.inr (6, [.null, .null, .ref (a + 1), .ref (a + 3), .ref (a + 4), .null, .int 0, .int 0, .int 0]))).2 (a + 4) = some (cI 10 (fun _ => 0)) := by rw [xup_ne _ _ (by omega)]; simp [xnew, zk1]
  have ok2 : ∀ q, a < q → q < a + 4 → (xup (xnew k1 (cI 10 (fun _ => 0))) a (.inr (6, [.null, .null, .ref (a + 1), .ref (a + 3), .ref (a + 4), .null, .int 0, .int 0, .int 0]))).2 q = k1.2 q := fun q h1 h2 => by rw [xup_ne _ _ (by omega), xnew_ne _ (by omega)]
  generalize xup (xnew k1 (cI 10 (fun _ => 0))) a (.inr (6, [.null, .null, .ref (a + 1), .ref (a + 3), .ref (a + 4), .null, .int 0, .int 0, .int 0])) = k2 at *
  refine ex_aload_n dSear_init_32 rfl ?_
  refine ex_aload_n dSear_init_33 rfl ?_
  refine ex_put (fs' := [_, _, _, _, _, _, _, _, _]) dSear_init_34 fp_Sear_27_Comp bk2 rfl rfl (Nat.le_of_ble_eq_true rfl) rfl ?_
  refine ex_aload_n dSear_init_37 rfl ?_
  refine ex_aload_n dSear_init_38 rfl ?_
  refine ex_put (fs' := [_, _, _, _, _, _, _, _, _]) dSear_init_39 fp_Sear_31_Comp (xup_self _ _ _) rfl rfl (Nat.le_of_ble_eq_true rfl) rfl ?_
  have S3 : Sm k2 (xup (xup k2 a (.inr (6, [.ref (x + 1), .null, .ref (a + 1), .ref (a + 3), .ref (a + 4), .null, .int 0, .int 0, .int 0]))) a (.inr (6, [.ref (x + 1), .ref (x + 4), .ref (a + 1), .ref (a + 3), .ref (a + 4), .null, .int 0, .int 0, .int 0]))) a (a + 1) := (Sm.up (by omega) (by omega)).trans (Sm.up (by omega) (by omega))
  refine ex_vret dSear_init_42 rfl (Nat.le_of_ble_eq_true rfl) (Nat.le_of_ble_eq_true rfl) ⟨rfl, xup_self _ _ _, ?_, ⟨fun _ => 0, (S3.2 _ (by omega)).trans ((ok2 _ (by omega) (by omega)).trans ik1), fun j hj => absurd hj (Nat.not_lt_zero _)⟩, ⟨fun _ => 0, (S3.2 _ (by omega)).trans ik2, fun j hj => absurd hj (Nat.not_lt_zero _)⟩, zk2, fun q hq => (S3.2 _ (by omega)).trans (fk2 q hq)⟩
  exact L1a.eq ((S3.2 _ (by omega)).trans ((ok2 _ (by omega) (by omega)).trans (ok1 _ (by omega) (by omega)))) ((S3.2 _ (by omega)).trans ((ok2 _ (by omega) (by omega)).trans (ok1 _ (by omega) (by omega))))
theorem c_Comp_init (hz : h.1 = a + 1) (h1 : h.2 a = some (.inr (6, [.null, .null, .null, .null, .null, .null, .int 0, .int 0, .int 0]))) : xMet l G mComp_init (d + 2) 6 32 [.ref a, .ref (x + 1), .ref (x + 4)] h (fun o h' => o = .inl none ∧ Ci h' a x (false, false, 0) ∧ h'.1 = a + 7 ∧ ∀ q : Nat, q < a → h'.2 q = h.2 q) := by
  refine xMet_of (L := [_, _, _]) (by decide) (Nat.le_of_ble_eq_true rfl) rfl ?_
  refine ex_aload_n dComp_init_0 rfl ?_
  refine ex_aload_n dComp_init_1 rfl ?_
  refine ex_aload_n dComp_init_2 rfl ?_
  refine ex_i2 dComp_init_3 ii_Comp_3 cd_Sear_init ar_Sear_init (c_Sear_init_Comp (d := d) (x := x) hz h1) (by dsimp only; omega) (Nat.le_of_ble_eq_true rfl) (Nat.le_of_ble_eq_true rfl) (Nat.le_of_ble_eq_true rfl) (fun E h9 q9 => by simp at q9) (fun v9 g1 hq => ?_)
  obtain ⟨e, b1, L1, i1, i2, z1, F1⟩ := hq
  cases e
  refine ex_aload_n dComp_init_6 rfl ?_
  refine ex_new dComp_init_7 nw_Comp_9 (Nat.le_of_ble_eq_true rfl) (Nat.le_of_ble_eq_true rfl) ?_
  rw [z1]
  refine ex_dup dComp_init_10 rfl ?_
  refine ex_iconst (v := nI 5) dComp_init_11 (by decide) ?_
  refine ex_i1 dComp_init_12 ii_Comp_11 cd_Line_init ar_Line_init (c_Line_init (d := d) (a := a + 5) (N := 5) (by omega) (by simp [xnew, z1]) (by simp [xnew, z1])) (by dsimp only; omega) (Nat.le_of_ble_eq_true rfl) (Nat.le_of_ble_eq_true rfl) (Nat.le_of_ble_eq_true rfl) (fun E h9 q9 => by simp at q9) (fun v8 g2 hq => ?_)
  obtain ⟨e, L2, z2, F2⟩ := hq
  cases e
  have w1 : ∀ q : Nat, q < a + 5 → g2.2 q = g1.2 q := fun q hq => by rw [F2 q (by omega), xnew_ne _ (by omega)]
  refine ex_put (fs' := [_, _, _, _, _, _, _, _, _]) dComp_init_15 fp_Comp_14 ((w1 a (by omega)).trans b1) rfl rfl (Nat.le_of_ble_eq_true rfl) rfl ?_
  have S3 : Sm g2 (xup g2 a (.inr (6, [.ref (x + 1), .ref (x + 4), .ref (a + 1), .ref (a + 3), .ref (a + 4), .ref (a + 5), .int 0, .int 0, .int 0]))) a (a + 1) := Sm.up (by omega) (by omega)
  exact ex_vret dComp_init_18 rfl (Nat.le_of_ble_eq_true rfl) (Nat.le_of_ble_eq_true rfl) ⟨rfl, ⟨⟨[], xup_self _ _ _, L1.eq ((S3.2 _ (by omega)).trans (w1 _ (by omega))) ((S3.2 _ (by omega)).trans (w1 _ (by omega))), i1.at ((S3.2 _ (by omega)).trans (w1 _ (by omega))), i2.at ((S3.2 _ (by omega)).trans (w1 _ (by omega)))⟩, ⟨[], L2.sm S3 (by omega)⟩, by decide⟩, z2, fun q hq => (S3.2 _ (by omega)).trans ((w1 _ (by omega)).trans (F1 q hq))⟩
theorem c_Sear_init_Writ (hz : h.1 = a + 1) (h1 : h.2 a = some (.inr (7, [.null, .null, .null, .null, .null, .null, .null]))) : xMet l G mSear_init (d + 1) 4 25 [.ref a, .ref (x + 1), .ref (x + 4)] h (fun o h' => o = .inl none ∧ h'.2 a = some (.inr (7, [.ref (x + 1), .ref (x + 4), .ref (a + 1), .ref (a + 3), .ref (a + 4), .null, .null])) ∧ Ln h' (a + 1) 4 [] ∧ IA h' (a + 3) 9 0 (fun _ => 0) ∧ IA h' (a + 4) 10 0 (fun _ => 0) ∧ h'.1 = a + 5 ∧ ∀ q : Nat, q < a → h'.2 q = h.2 q) := by
  refine xMet_of (L := [_, _, _]) (by decide) (Nat.le_of_ble_eq_true rfl) rfl ?_
  refine ex_aload_n dSear_init_0 rfl ?_
  refine ex_objInit dSear_init_1 oi_Sear_3 oi_1 oi_2 (by decide) ?_
  refine ex_aload_n dSear_init_4 rfl ?_
  refine ex_new dSear_init_5 nw_Sear_9 (Nat.le_of_ble_eq_true rfl) (Nat.le_of_ble_eq_true rfl) ?_
  rw [hz]
  refine ex_dup dSear_init_8 rfl ?_
  refine ex_iconst (v := nI 4) dSear_init_9 (by decide) ?_
  refine ex_i1 dSear_init_10 ii_Sear_11 cd_Line_init ar_Line_init (c_Line_init (d := d) (a := a + 1) (N := 4) (by omega) (by simp [xnew, hz]) (by simp [xnew, hz])) (by dsimp only; omega) (Nat.le_of_ble_eq_true rfl) (Nat.le_of_ble_eq_true rfl) (Nat.le_of_ble_eq_true rfl) (fun E h9 q9 => by simp at q9) (fun v9 g1 hq => ?_)
  obtain ⟨e, L1, z1, F1⟩ := hq
  cases e
  have w1 : ∀ q : Nat, q < a + 1 → g1.2 q = h.2 q := fun q hq => by rw [F1 q (by omega), xnew_ne _ (by omega)]
  refine ex_put (fs' := [_, _, _, _, _, _, _]) dSear_init_13 fp_Sear_14_Writ ((w1 a (by omega)).trans h1) rfl rfl (Nat.le_of_ble_eq_true rfl) rfl ?_
  refine ex_aload_n dSear_init_16 rfl ?_
  refine ex_bipush (v := nI 9) dSear_init_17 (by decide) ?_
  have S1 : Sm g1 (xup g1 a (.inr (7, [.null, .null, .ref (a + 1), .null, .null, .null, .null]))) a (a + 1) := Sm.up (by omega) (by omega)
  have L1a := L1.sm S1 (by omega)
  have z1a : (xup g1 a (.inr (7, [.null, .null, .ref (a + 1), .null, .null, .null, .null]))).1 = a + 3 := z1
  have b1 : (xup g1 a (.inr (7, [.null, .null, .ref (a + 1), .null, .null, .null, .null]))).2 a = _ := xup_self _ _ _
  have w2 : ∀ q : Nat, q < a → (xup g1 a (.inr (7, [.null, .null, .ref (a + 1), .null, .null, .null, .null]))).2 q = h.2 q := fun q hq => (S1.2 q (by omega)).trans (w1 q (by omega))
  generalize xup g1 a (.inr (7, [.null, .null, .ref (a + 1), .null, .null, .null, .null])) = k0 at *
  refine ex_newi dSear_init_19 aw_int rfl (by omega) (Nat.le_of_ble_eq_true rfl) (Nat.le_of_ble_eq_true rfl) ?_
  rw [z1a]
  have ck1 : (xnew k0 (cI 9 (fun _ => 0))).2 a = some (.inr (7, [.null, .null, .ref (a + 1), .null, .null, .null, .null])) := by rw [xnew_ne _ (by omega)]; exact b1
  refine ex_put (fs' := [_, _, _, _, _, _, _]) dSear_init_21 fp_Sear_20_Writ ck1 rfl rfl (Nat.le_of_ble_eq_true rfl) rfl ?_
  refine ex_aload_n dSear_init_24 rfl ?_
  refine ex_bipush (v := nI 10) dSear_init_25 (by decide) ?_
  have zk1 : (xup (xnew k0 (cI 9 (fun _ => 0))) a (.inr (7, [.null, .null, .ref (a + 1), .ref (a + 3), .null, .null, .null]))).1 = a + 4 := by rw [xup_1]; show _ + 1 = _; omega
  have bk1 : (xup (xnew k0 (cI 9 (fun _ => 0))) a (.inr (7, [.null, .null, .ref (a + 1), .ref (a + 3), .null, .null, .null]))).2 a = some (.inr (7, [.null, .null, .ref (a + 1), .ref (a + 3), .null, .null, .null])) := xup_self _ _ _
  have fk1 : ∀ q, q < a → (xup (xnew k0 (cI 9 (fun _ => 0))) a (.inr (7, [.null, .null, .ref (a + 1), .ref (a + 3), .null, .null, .null]))).2 q = h.2 q := fun q hq => by rw [xup_ne _ _ (by omega), xnew_ne _ (by omega)]; exact w2 q hq
  have ik1 : (xup (xnew k0 (cI 9 (fun _ => 0))) a (.inr (7, [.null, .null, .ref (a + 1), .ref (a + 3), .null, .null, .null]))).2 (a + 3) = some (cI 9 (fun _ => 0)) := by rw [xup_ne _ _ (by omega)]; simp [xnew, z1a]
  have ok1 : ∀ q, a < q → q < a + 3 → (xup (xnew k0 (cI 9 (fun _ => 0))) a (.inr (7, [.null, .null, .ref (a + 1), .ref (a + 3), .null, .null, .null]))).2 q = k0.2 q := fun q h1 h2 => by rw [xup_ne _ _ (by omega), xnew_ne _ (by omega)]
  generalize xup (xnew k0 (cI 9 (fun _ => 0))) a (.inr (7, [.null, .null, .ref (a + 1), .ref (a + 3), .null, .null, .null])) = k1 at *
  refine ex_newi dSear_init_27 aw_int rfl (by omega) (Nat.le_of_ble_eq_true rfl) (Nat.le_of_ble_eq_true rfl) ?_
  rw [zk1]
  have ck2 : (xnew k1 (cI 10 (fun _ => 0))).2 a = some (.inr (7, [.null, .null, .ref (a + 1), .ref (a + 3), .null, .null, .null])) := by rw [xnew_ne _ (by omega)]; exact bk1
  refine ex_put (fs' := [_, _, _, _, _, _, _]) dSear_init_29 fp_Sear_24_Writ ck2 rfl rfl (Nat.le_of_ble_eq_true rfl) rfl ?_
  have zk2 : (xup (xnew k1 (cI 10 (fun _ => 0))) a (.inr (7, [.null, .null, .ref (a + 1), .ref (a + 3), .ref (a + 4), .null, .null]))).1 = a + 5 := by rw [xup_1]; show _ + 1 = _; omega
  have bk2 : (xup (xnew k1 (cI 10 (fun _ => 0))) a (.inr (7, [.null, .null, .ref (a + 1), .ref (a + 3), .ref (a + 4), .null, .null]))).2 a = some (.inr (7, [.null, .null, .ref (a + 1), .ref (a + 3), .ref (a + 4), .null, .null])) := xup_self _ _ _
  have fk2 : ∀ q, q < a → (xup (xnew k1 (cI 10 (fun _ => 0))) a (.inr (7, [.null, .null, .ref (a + 1), .ref (a + 3), .ref (a + 4), .null, .null]))).2 q = h.2 q := fun q hq => by rw [xup_ne _ _ (by omega), xnew_ne _ (by omega)]; exact fk1 q hq
  have ik2 : (xup (xnew k1 (cI 10 (fun _ => 0))) a (.inr (7, [.null, .null, .ref (a + 1), .ref (a + 3), .ref (a + 4), .null, .null]))).2 (a + 4) = some (cI 10 (fun _ => 0)) := by rw [xup_ne _ _ (by omega)]; simp [xnew, zk1]
  have ok2 : ∀ q, a < q → q < a + 4 → (xup (xnew k1 (cI 10 (fun _ => 0))) a (.inr (7, [.null, .null, .ref (a + 1), .ref (a + 3), .ref (a + 4), .null, .null]))).2 q = k1.2 q := fun q h1 h2 => by rw [xup_ne _ _ (by omega), xnew_ne _ (by omega)]
  generalize xup (xnew k1 (cI 10 (fun _ => 0))) a (.inr (7, [.null, .null, .ref (a + 1), .ref (a + 3), .ref (a + 4), .null, .null])) = k2 at *
  refine ex_aload_n dSear_init_32 rfl ?_
  refine ex_aload_n dSear_init_33 rfl ?_
  refine ex_put (fs' := [_, _, _, _, _, _, _]) dSear_init_34 fp_Sear_27_Writ bk2 rfl rfl (Nat.le_of_ble_eq_true rfl) rfl ?_
  refine ex_aload_n dSear_init_37 rfl ?_
  refine ex_aload_n dSear_init_38 rfl ?_
  refine ex_put (fs' := [_, _, _, _, _, _, _]) dSear_init_39 fp_Sear_31_Writ (xup_self _ _ _) rfl rfl (Nat.le_of_ble_eq_true rfl) rfl ?_
  have S3 : Sm k2 (xup (xup k2 a (.inr (7, [.ref (x + 1), .null, .ref (a + 1), .ref (a + 3), .ref (a + 4), .null, .null]))) a (.inr (7, [.ref (x + 1), .ref (x + 4), .ref (a + 1), .ref (a + 3), .ref (a + 4), .null, .null]))) a (a + 1) := (Sm.up (by omega) (by omega)).trans (Sm.up (by omega) (by omega))
  refine ex_vret dSear_init_42 rfl (Nat.le_of_ble_eq_true rfl) (Nat.le_of_ble_eq_true rfl) ⟨rfl, xup_self _ _ _, ?_, ⟨fun _ => 0, (S3.2 _ (by omega)).trans ((ok2 _ (by omega) (by omega)).trans ik1), fun j hj => absurd hj (Nat.not_lt_zero _)⟩, ⟨fun _ => 0, (S3.2 _ (by omega)).trans ik2, fun j hj => absurd hj (Nat.not_lt_zero _)⟩, zk2, fun q hq => (S3.2 _ (by omega)).trans (fk2 q hq)⟩
  exact L1a.eq ((S3.2 _ (by omega)).trans ((ok2 _ (by omega) (by omega)).trans (ok1 _ (by omega) (by omega)))) ((S3.2 _ (by omega)).trans ((ok2 _ (by omega) (by omega)).trans (ok1 _ (by omega) (by omega))))
theorem c_Writ_init (hz : h.1 = a + 1) (h1 : h.2 a = some (.inr (7, [.null, .null, .null, .null, .null, .null, .null]))) : xMet l G mWrit_init (d + 2) 6 32 [.ref a, .ref (x + 1), .ref (x + 4), .ref g] h (fun o h' => o = .inl none ∧ Wi h' a x g ∧ h'.1 = a + 7 ∧ ∀ q : Nat, q < a → h'.2 q = h.2 q) := by
  refine xMet_of (L := [_, _, _, _]) (by decide) (Nat.le_of_ble_eq_true rfl) rfl ?_
  refine ex_aload_n dWrit_init_0 rfl ?_
  refine ex_aload_n dWrit_init_1 rfl ?_
  refine ex_aload_n dWrit_init_2 rfl ?_
  refine ex_i2 dWrit_init_3 ii_Writ_3 cd_Sear_init ar_Sear_init (c_Sear_init_Writ (d := d) (x := x) hz h1) (by dsimp only; omega) (Nat.le_of_ble_eq_true rfl) (Nat.le_of_ble_eq_true rfl) (Nat.le_of_ble_eq_true rfl) (fun E h9 q9 => by simp at q9) (fun v9 g1 hq => ?_)
  obtain ⟨e, b1, L1, i1, i2, z1, F1⟩ := hq
  cases e
  refine ex_aload_n dWrit_init_6 rfl ?_
  refine ex_new dWrit_init_7 nw_Writ_9 (Nat.le_of_ble_eq_true rfl) (Nat.le_of_ble_eq_true rfl) ?_
  rw [z1]
  refine ex_dup dWrit_init_10 rfl ?_
  refine ex_iconst (v := nI 5) dWrit_init_11 (by decide) ?_
  refine ex_i1 dWrit_init_12 ii_Writ_11 cd_Line_init ar_Line_init (c_Line_init (d := d) (a := a + 5) (N := 5) (by omega) (by simp [xnew, z1]) (by simp [xnew, z1])) (by dsimp only; omega) (Nat.le_of_ble_eq_true rfl) (Nat.le_of_ble_eq_true rfl) (Nat.le_of_ble_eq_true rfl) (fun E h9 q9 => by simp at q9) (fun v8 g2 hq => ?_)
  obtain ⟨e, L2, z2, F2⟩ := hq
  cases e
  have w1 : ∀ q : Nat, q < a + 5 → g2.2 q = g1.2 q := fun q hq => by rw [F2 q (by omega), xnew_ne _ (by omega)]
  refine ex_put (fs' := [_, _, _, _, _, _, _]) dWrit_init_15 fp_Writ_14 ((w1 a (by omega)).trans b1) rfl rfl (Nat.le_of_ble_eq_true rfl) rfl ?_
  refine ex_aload_n dWrit_init_18 rfl ?_
  refine ex_aload_n dWrit_init_19 rfl ?_
  refine ex_put (fs' := [_, _, _, _, _, _, _]) dWrit_init_20 fp_Writ_20 (xup_self _ _ _) rfl rfl (Nat.le_of_ble_eq_true rfl) rfl ?_
  have S3 : Sm g2 (xup (xup g2 a (.inr (7, [.ref (x + 1), .ref (x + 4), .ref (a + 1), .ref (a + 3), .ref (a + 4), .ref (a + 5), .null]))) a (.inr (7, [.ref (x + 1), .ref (x + 4), .ref (a + 1), .ref (a + 3), .ref (a + 4), .ref (a + 5), .ref g]))) a (a + 1) := (Sm.up (by omega) (by omega)).trans (Sm.up (by omega) (by omega))
  exact ex_vret dWrit_init_23 rfl (Nat.le_of_ble_eq_true rfl) (Nat.le_of_ble_eq_true rfl) ⟨rfl, ⟨⟨[], xup_self _ _ _, L1.eq ((S3.2 _ (by omega)).trans (w1 _ (by omega))) ((S3.2 _ (by omega)).trans (w1 _ (by omega))), i1.at ((S3.2 _ (by omega)).trans (w1 _ (by omega))), i2.at ((S3.2 _ (by omega)).trans (w1 _ (by omega)))⟩, ⟨[], L2.sm S3 (by omega)⟩⟩, z2, fun q hq => (S3.2 _ (by omega)).trans ((w1 _ (by omega)).trans (F1 q hq))⟩
end FIND
