/-! Comparison. -/
def meetC (W : xW) (s : Bool × Bool × Nat) (row : List Nat) : Bool × Bool × Nat := (true, s.2.1 || brkn W row == 0, s.2.2 &&& brkn W row)
def tkC (u : List Nat) (i z : Nat) : Bool := u.getD i 0 == z
def meC (u : List Nat) (n : Nat) : Bool := n == u.length
def dnC (s : Bool × Bool × Nat) : Bool := s.2.1
def sExtC (W : xW) (w u : List Nat) : Nat → List Nat → Nat → Nat → Bool × Bool × Nat → Bool × Bool × Nat := sExt W w (tkC u) (meC u) (meetC W) dnC
def Sc (h : xH) (a x : Nat) (W : xW) (w u row : List Nat) (s : Bool × Bool × Nat) : Prop := Sx h a x 6 [.int (bI s.1), .int (bI s.2.1), .int (nI s.2.2)] W w row ∧ Ln h (a + 5) 5 u ∧ s.2.2 < 16 ∧ ∀ i, u.getD i 0 < 8
theorem Sc.eq {h h' : xH} {a x : Nat} {W : xW} {w u row : List Nat} {s : Bool × Bool × Nat} (H : Sc h a x W w u row s) (e : ∀ q : Nat, a ≤ q → q < a + 7 → h'.2 q = h.2 q) : Sc h' a x W w u row s :=
  ⟨H.1.eq (fun q h1 h2 => e q h1 (by omega)), H.2.1.eq (e _ (by omega) (by omega)) (e _ (by omega) (by omega)), H.2.2⟩
theorem Sc.cut {h : xH} {a x : Nat} {W : xW} {w u row : List Nat} {p : Nat} {s : Bool × Bool × Nat} (H : Sc h a x W w u (row ++ [p]) s) : Sc h a x W w u row s := by
  obtain ⟨⟨h1, h2, h3, h4, h5, h6, h7⟩, h8⟩ := H
  refine ⟨⟨h1, h2, h3.to (by simp) (fun j hj => ?_), h4.to (by simp) (fun j hj => ?_), fun q hq => h5 q (List.mem_append_left _ hq), by simp at h6; omega, h7⟩, h8⟩
  · rw [getD_snoc' (by omega)]
  · rw [List.take_append_of_le_length (by omega)]
theorem foldl_stop {α β : Type} {f : β → α → β} {s : β} : ∀ (l : List α), (∀ x, f s x = s) → l.foldl f s = s
  | [], _ => rfl
  | x :: xs, h => by rw [List.foldl_cons, h x]; exact foldl_stop xs h
section COMP
variable {l : Launch} {G : xG} {a x : Nat} {W : xW} {w u : List Nat}
theorem c_Comp_takesUpper {d : Nat} {h : xH} {row : List Nat} {s : Bool × Bool × Nat} {i z : Nat} (hi : i < 100) (hz : z < 8) (H : Sc h a x W w u row s) : xMet l G mComp_takesUpper (d + 1) 0 0 [.ref a, .int (nI i), .int (nI z)] h (fun o h' => o = .inl (some (.int (bI (tkC u i z)))) ∧ h' = h) := by
  obtain ⟨⟨h1, h2, ⟨f3, h3, e3⟩, ⟨f4, h4, e4⟩, h5, h6, h7⟩, h8, h9, h10⟩ := H
  have L8 := h8
  obtain ⟨fl, l1, l2, l3, l4, l5⟩ := L8
  refine xMet_of (L := [_, _, _]) (by decide) (Nat.le_of_ble_eq_true rfl) rfl ?_
  refine ex_aload_n dComp_takesUpper_0 rfl ?_
  refine ex_get dComp_takesUpper_1 fg_Comp_14 h1 rfl ?_
  refine ex_iload_n dComp_takesUpper_4 rfl ?_
  refine ex_v1 dComp_takesUpper_5 iv_Comp_38 cd_Line_signAt ar_Line_signAt l1 (c_Line_signAt (d := d) (i := i) (by omega) h8) (by dsimp only; omega) (Nat.le_of_ble_eq_true rfl) (Nat.le_refl _) (Nat.le_refl _) (fun E h9 q9 => by simp at q9) (fun v9 hp9 hq => ?_)
  obtain ⟨e, e1⟩ := hq
  cases e
  rw [e1]
  refine ex_iload_n dComp_takesUpper_8 rfl ?_
  refine ex_icmp_ne (tgt := 16) dComp_takesUpper_9 (by decide) (fun hc => ?_) (fun hc => ?_)
  · refine ex_iconst (v := nI 0) dComp_takesUpper_16 (by decide) ?_
    exact ex_zret dComp_takesUpper_17 rfl (by decide) (Nat.le_refl _) (Nat.le_refl _) ⟨by rw [show tkC u i z = false from by simpa [tkC] using fun q : u.getD i 0 = z => hc (by rw [q])]; rfl, rfl⟩
  · refine ex_iconst (v := nI 1) dComp_takesUpper_12 (by decide) ?_
    refine ex_goto (tgt := 17) dComp_takesUpper_13 (by decide) ?_
    exact ex_zret dComp_takesUpper_17 rfl (by decide) (Nat.le_refl _) (Nat.le_refl _) ⟨by rw [show tkC u i z = true from by simpa [tkC] using (nI_eq (by have := h10 i; omega) (by omega)).mp hc]; rfl, rfl⟩
theorem c_Comp_mayEnd {d : Nat} {h : xH} {row : List Nat} {s : Bool × Bool × Nat} {n : Nat} (hi : n < 100) (H : Sc h a x W w u row s) : xMet l G mComp_mayEnd (d + 1) 0 0 [.ref a, .int (nI n)] h (fun o h' => o = .inl (some (.int (bI (meC u n)))) ∧ h' = h) := by
  obtain ⟨⟨h1, h2, ⟨f3, h3, e3⟩, ⟨f4, h4, e4⟩, h5, h6, h7⟩, h8, h9, h10⟩ := H
  have L8 := h8
  obtain ⟨fl, l1, l2, l3, l4, l5⟩ := L8
  refine xMet_of (L := [_, _]) (by decide) (Nat.le_of_ble_eq_true rfl) rfl ?_
  refine ex_iload_n dComp_mayEnd_0 rfl ?_
  refine ex_aload_n dComp_mayEnd_1 rfl ?_
  refine ex_get dComp_mayEnd_2 fg_Comp_14 h1 rfl ?_
  refine ex_v0 dComp_mayEnd_5 iv_Comp_42 cd_Line_size ar_Line_size l1 (c_Line_size (d := d) h8) (by dsimp only; omega) (Nat.le_of_ble_eq_true rfl) (Nat.le_refl _) (Nat.le_refl _) (fun E h9 q9 => by simp at q9) (fun v9 hp9 hq => ?_)
  obtain ⟨e, e1⟩ := hq
  cases e
  rw [e1]
  refine ex_icmp_ne (tgt := 15) dComp_mayEnd_8 (by decide) (fun hc => ?_) (fun hc => ?_)
  · refine ex_iconst (v := nI 0) dComp_mayEnd_15 (by decide) ?_
    exact ex_zret dComp_mayEnd_16 rfl (by decide) (Nat.le_refl _) (Nat.le_refl _) ⟨by rw [show meC u n = false from by simpa [meC] using fun q : n = u.length => hc (by rw [q])]; rfl, rfl⟩
  · refine ex_iconst (v := nI 1) dComp_mayEnd_11 (by decide) ?_
    refine ex_goto (tgt := 16) dComp_mayEnd_12 (by decide) ?_
    exact ex_zret dComp_mayEnd_16 rfl (by decide) (Nat.le_refl _) (Nat.le_refl _) ⟨by rw [show meC u n = true from by simpa [meC] using (nI_eq (by omega) (by omega)).mp hc]; rfl, rfl⟩
theorem c_Comp_isDone {d : Nat} {h : xH} {row : List Nat} {s : Bool × Bool × Nat} (H : Sc h a x W w u row s) : xMet l G mComp_isDone d 0 0 [.ref a] h (fun o h' => o = .inl (some (.int (bI s.2.1))) ∧ h' = h) := by
  obtain ⟨⟨h1, h2, ⟨f3, h3, e3⟩, ⟨f4, h4, e4⟩, h5, h6, h7⟩, h8, h9, h10⟩ := H
  have L8 := h8
  obtain ⟨fl, l1, l2, l3, l4, l5⟩ := L8
  refine xMet_of (L := [_]) (by decide) (Nat.le_of_ble_eq_true rfl) rfl ?_
  refine ex_aload_n dComp_isDone_0 rfl ?_
  refine ex_get dComp_isDone_1 fg_Comp_28 h1 rfl ?_
  exact ex_zret dComp_isDone_4 rfl (bI_01 _) (Nat.le_refl _) (Nat.le_refl _) ⟨rfl, rfl⟩
theorem Sc.set {h : xH} {row : List Nat} {s s' : Bool × Bool × Nat} (H : Sc h a x W w u row s) (hb : s'.2.2 < 16) : Sc (xup h a (.inr (6, [.ref (x + 1), .ref (x + 4), .ref (a + 1), .ref (a + 3), .ref (a + 4), .ref (a + 5), .int (bI s'.1), .int (bI s'.2.1), .int (nI s'.2.2)]))) a x W w u row s' := by
  obtain ⟨⟨h1, h2, h3, h4, h5⟩, h8, h9, h10⟩ := H
  exact ⟨⟨xup_self _ _ _, h2.eq (xup_ne _ _ (by omega)) (xup_ne _ _ (by omega)), h3.at (xup_ne _ _ (by omega)), h4.at (xup_ne _ _ (by omega)), h5⟩, h8.eq (xup_ne _ _ (by omega)) (xup_ne _ _ (by omega)), hb, h10⟩
theorem c_Comp_meet {d : Nat} {h : xH} {row : List Nat} {s : Bool × Bool × Nat} {n b : Nat} (hb : b < 16) (H : Sc h a x W w u row s) : xMet l G mComp_meet d 0 0 [.ref a, .int (nI n), .int (nI b)] h (fun o h' => o = .inl none ∧ Sc h' a x W w u row (true, s.2.1 || b == 0, s.2.2 &&& b) ∧ Sm h h' a (a + 1)) := by
  have H0 := H
  obtain ⟨⟨h1, h2, ⟨f3, h3, e3⟩, ⟨f4, h4, e4⟩, h5, h6, h7⟩, h8, h9, h10⟩ := H
  have L8 := h8
  obtain ⟨fl, l1, l2, l3, l4, l5⟩ := L8
  have X1 := H0.set (s' := (true, s.2.1, s.2.2)) h9
  have X2 := X1.set (s' := (true, s.2.1, s.2.2 &&& b)) (show s.2.2 &&& b < 2 ^ 4 from and_ltr hb)
  have X3 := X2.set (s' := (true, true, s.2.2 &&& b)) (show s.2.2 &&& b < 2 ^ 4 from and_ltr hb)
  refine xMet_of (L := [_, _, _]) (by decide) (Nat.le_of_ble_eq_true rfl) rfl ?_
  refine ex_aload_n dComp_meet_0 rfl ?_
  refine ex_iconst (v := nI 1) dComp_meet_1 (by decide) ?_
  refine ex_put (fs' := [_, _, _, _, _, _, _, _, _]) dComp_meet_2 (fp_Comp_24 _) h1 (bI_nar true) (bI_fits true) (Nat.le_of_ble_eq_true rfl) rfl ?_
  refine ex_aload_n dComp_meet_5 rfl ?_
  refine ex_dup dComp_meet_6 rfl ?_
  refine ex_get dComp_meet_7 fg_Comp_31 X1.1.1 rfl ?_
  refine ex_iload_n dComp_meet_10 rfl ?_
  refine ex_iand dComp_meet_11 ?_
  rw [nb_and]
  refine ex_put (fs' := [_, _, _, _, _, _, _, _, _]) dComp_meet_12 (fp_Comp_31 _) X1.1.1 rfl rfl (Nat.le_of_ble_eq_true rfl) rfl ?_
  refine ex_iload_n dComp_meet_15 rfl ?_
  refine ex_if_ne (tgt := 24) dComp_meet_16 (by decide) (fun hc => ?_) (fun hc => ?_)
  · have q : ¬ b = 0 := fun q => hc (by rw [q]; rfl)
    exact ex_vret dComp_meet_24 rfl (Nat.le_refl _) (Nat.le_refl _) ⟨rfl, by rw [show (b == 0) = false from by simpa using q, Bool.or_false]; exact X2, (Sm.up (by omega) (by omega)).trans (Sm.up (by omega) (by omega))⟩
  have q : b = 0 := (nI_eq (b := 0) (by omega) (by omega)).mp hc
  refine ex_aload_n dComp_meet_19 rfl ?_
  refine ex_iconst (v := nI 1) dComp_meet_20 (by decide) ?_
  refine ex_put (fs' := [_, _, _, _, _, _, _, _, _]) dComp_meet_21 (fp_Comp_28 _) X2.1.1 (bI_nar true) (bI_fits true) (Nat.le_of_ble_eq_true rfl) rfl ?_
  exact ex_vret dComp_meet_24 rfl (Nat.le_refl _) (Nat.le_refl _) ⟨rfl, by rw [show (b == 0) = true from by simpa using q, Bool.or_true]; exact X3, ((Sm.up (by omega) (by omega)).trans (Sm.up (by omega) (by omega))).trans (Sm.up (by omega) (by omega))⟩
theorem c_fitsUpper_Comp {d : Nat} {h : xH} {row : List Nat} {s : Bool × Bool × Nat} {p ud : Nat} (hu : ud < 100) (hp : p < W.1.length) (HE : Ev h x W) (H : Sc h a x W w u row s) : xMet l G mSear_fitsUpper (d + 2) 0 0 [.ref a, .int (nI p), .int (nI ud)] h (fun o h' => o = .inl (some (.int (bI (fitU (tkC u) W ud p)))) ∧ h' = h) := by
  have o1 := HE.o1
  have hbp := (HE.b.2.1 p).2
  have h1 := H.1.1
  refine xMet_of (L := [_, _, _, _]) (by decide) (Nat.le_of_ble_eq_true rfl) rfl ?_
  refine ex_aload_n dSear_fitsUpper_0 rfl ?_
  refine ex_get dSear_fitsUpper_1 fg_Sear_27_Comp h1 rfl ?_
  refine ex_iload_n dSear_fitsUpper_4 rfl ?_
  refine ex_v1 dSear_fitsUpper_5 iv_Sear_54 cd_Pairs_upperOf ar_Pairs_upperOf o1 (c_Pairs_upperOf (d := d) (i := p) hp HE.1) (by dsimp only; omega) (Nat.le_of_ble_eq_true rfl) (Nat.le_refl _) (Nat.le_refl _) (fun E h9 q9 => by simp at q9) (fun v9 hp9 hq => ?_)
  obtain ⟨e, e1⟩ := hq
  cases e
  rw [e1]
  refine ex_istore_n (L' := [_, _, _, _]) dSear_fitsUpper_8 (by decide) rfl ?_
  refine ex_iload_n dSear_fitsUpper_9 rfl ?_
  refine ex_if_eq (tgt := 22) dSear_fitsUpper_10 (by decide) (fun hc => ?_) (fun hc => ?_)
  · have q : upp W p = 0 := (nI_eq (b := 0) (by omega) (by omega)).mp hc
    refine ex_iconst (v := nI 1) dSear_fitsUpper_22 (by decide) ?_
    refine ex_goto (tgt := 27) dSear_fitsUpper_23 (by decide) ?_
    exact ex_zret dSear_fitsUpper_27 rfl (by decide) (Nat.le_refl _) (Nat.le_refl _) ⟨by unfold fitU; rw [q]; rfl, rfl⟩
  have q : ¬ upp W p = 0 := fun q => hc (by rw [show (W.1.getD p (0, 0)).2 = 0 from q]; rfl)
  have hf : fitU (tkC u) W ud p = tkC u ud (upp W p) := by unfold fitU; rw [show (upp W p == 0) = false from by simpa using q]; rfl
  refine ex_aload_n dSear_fitsUpper_13 rfl ?_
  refine ex_iload_n dSear_fitsUpper_14 rfl ?_
  refine ex_iload_n dSear_fitsUpper_15 rfl ?_
  refine ex_u2 dSear_fitsUpper_16 iu_Sear_103_Comp cd_Comp_takesUpper ar_Comp_takesUpper h1 (c_Comp_takesUpper (d := d) (i := ud) (z := upp W p) hu hbp H) (by dsimp only; omega) (Nat.le_of_ble_eq_true rfl) (Nat.le_refl _) (Nat.le_refl _) (fun E h9 q9 => by simp at q9) (fun v8 hp8 hq => ?_)
  obtain ⟨e, e1⟩ := hq
  cases e
  rw [e1]
  refine ex_if_eq (tgt := 26) dSear_fitsUpper_19 (by decide) (fun hc2 => ?_) (fun hc2 => ?_)
  · refine ex_iconst (v := nI 0) dSear_fitsUpper_26 (by decide) ?_
    exact ex_zret dSear_fitsUpper_27 rfl (by decide) (Nat.le_refl _) (Nat.le_refl _) ⟨by rw [hf, bI_0.mp hc2]; rfl, rfl⟩
  have ht : tkC u ud (upp W p) = true := by cases hq9 : tkC u ud (upp W p); rw [hq9] at hc2; exact absurd rfl hc2; rfl
  refine ex_iconst (v := nI 1) dSear_fitsUpper_22 (by decide) ?_
  refine ex_goto (tgt := 27) dSear_fitsUpper_23 (by decide) ?_
  exact ex_zret dSear_fitsUpper_27 rfl (by decide) (Nat.le_refl _) (Nat.le_refl _) ⟨by rw [hf, ht]; rfl, rfl⟩
theorem c_put_Comp {d f : Nat} (hax : x + 17 ≤ a) (ih : ∀ (row : List Nat) (n ld ud : Nat) (s : Bool × Bool × Nat) (h : xH), row.length = n → n + f = 9 → ld ≤ n → ud ≤ n → Ev h x W → Sc h a x W w u row s → xMet l G mSear_extend (d + 4 + 2 * f) 0 0 [.ref a, .int (nI n), .int (nI ld), .int (nI ud)] h (fun o h' => o = .inl none ∧ Sc h' a x W w u row (sExtC W w u f row ld ud s) ∧ Sm h h' a (a + 5))) {row : List Nat} {n ld ud p : Nat} {s : Bool × Bool × Nat} {h : xH} (hn : row.length = n) (hf : n + f = 8) (hld : ld ≤ n) (hud : ud ≤ n) (hp : p < W.1.length) (HE : Ev h x W) (H : Sc h a x W w u row s) : xMet l G mSear_put (d + 5 + 2 * f) 0 0 [.ref a, .int (nI p), .int (nI n), .int (nI ld), .int (nI ud)] h (fun o h' => o = .inl none ∧ Sc h' a x W w u row (sExtC W w u f (row ++ [p]) (if lowp W p = 0 then ld else ld + 1) (if upp W p = 0 then ud else ud + 1) s) ∧ Sm h h' a (a + 5)) := by
  have hb := HE.b
  have H0 := H
  obtain ⟨⟨h1, h2, ⟨f3, h3, e3⟩, ⟨f4, h4, e4⟩, h5, h6, h7⟩, h8, h9, h10⟩ := H
  have L8 := h8
  obtain ⟨fl, l1, l2, l3, l4, l5⟩ := L8
  have S1 : Sm h (xup h (a + 3) (cI 9 (upd f3 n (nI p)))) (a + 3) (a + 4) := Sm.up (by omega) (by omega)
  have HE1 := HE.sm S1 (by omega)
  have k1 := (S1.2 a (by omega)).trans h1
  have k4 := (S1.2 (a + 4) (by omega)).trans h4
  have S2 : Sm (xup h (a + 3) (cI 9 (upd f3 n (nI p)))) (xup (xup h (a + 3) (cI 9 (upd f3 n (nI p)))) (a + 4) (cI 10 (upd f4 (n + 1) (nI (sbef W (row ++ [p])))))) (a + 4) (a + 5) := Sm.up (by omega) (by omega)
  have X : Sc (xup (xup h (a + 3) (cI 9 (upd f3 n (nI p)))) (a + 4) (cI 10 (upd f4 (n + 1) (nI (sbef W (row ++ [p])))))) a x W w u (row ++ [p]) s := by
    refine ⟨⟨(S2.2 _ (by omega)).trans k1, (h2.sm S1 (by omega)).sm S2 (by omega), ?_, ?_, fun q hq => ?_, by simp; omega, h7⟩, (h8.sm S1 (by omega)).sm S2 (by omega), h9, h10⟩
    · subst hn
      refine ((IA.snoc e3).at (S2.2 _ (by omega))).to (by simp) (fun j hj => ?_)
      by_cases e : j = row.length
      · subst e; rw [va_up_self, getD_snoc]
      · rw [va_up_ne _ _ e, getD_snoc' e]
    · refine (IA.snoc (n := n + 1) (f := fun j => sbef W (row.take j)) (fun j hj => e4 j (by omega))).to (by simp; omega) (fun j hj => ?_)
      by_cases e : j = n + 1
      · subst e; rw [va_up_self, List.take_of_length_le (by simp; omega)]
      · rw [va_up_ne _ _ e, List.take_append_of_le_length (by simp at hj; omega)]
    · rcases List.mem_append.mp hq with q1 | q1
      · exact h5 q q1
      · rw [List.mem_singleton.mp q1]; exact hp
  have HE2 := HE1.sm S2 (by omega)
  generalize hg2 : xup (xup h (a + 3) (cI 9 (upd f3 n (nI p)))) (a + 4) (cI 10 (upd f4 (n + 1) (nI (sbef W (row ++ [p]))))) = g2 at *
  have SS : Sm h g2 a (a + 5) := (S1.wide (by omega) (by omega)).trans (S2.wide (by omega) (by omega))
  have t72 : ∀ v5 v6 y, v5 = (if lowp W p = 0 then ld else ld + 1) → v6 = (if upp W p = 0 then ud else ud + 1) → Ex (l, G, d + 5 + 2 * f, 0, 0, h, fun o h' => o = .inl none ∧ Sc h' a x W w u row (sExtC W w u f (row ++ [p]) (if lowp W p = 0 then ld else ld + 1) (if upp W p = 0 then ud else ud + 1) s) ∧ Sm h h' a (a + 5)) mSear_put 72 [some (.ref a), some (.int (nI p)), some (.int (nI n)), some (.int (nI ld)), some (.int (nI ud)), some (.int (nI v5)), y] [.int (nI v6)] g2 0 0 := by
    intro v5 v6 y e5 e6
    refine ex_istore (L' := [_, _, _, _, _, _, _]) dSear_put_72 (by decide) rfl ?_
    refine ex_aload_n dSear_put_74 rfl ?_
    refine ex_iload_n dSear_put_75 rfl ?_
    refine ex_iconst (v := nI 1) dSear_put_76 (by decide) ?_
    refine ex_iadd dSear_put_77 ?_
    refine ex_iload dSear_put_78 rfl ?_
    refine ex_iload dSear_put_80 rfl ?_
    rw [show nI n + nI 1 = nI (n + 1) from nI_add _ _]
    refine ex_p3 dSear_put_82 ip_Sear_50 cd_Sear_extend ar_Sear_extend X.1.1 (ih (row ++ [p]) (n + 1) v5 v6 s g2 (by simp [hn]) (by omega) (by rw [e5]; split <;> omega) (by rw [e6]; split <;> omega) HE2 X) (by dsimp only; omega) (Nat.le_of_ble_eq_true rfl) (Nat.le_refl _) (Nat.le_refl _) (fun E h9 q9 => by simp at q9) (fun v9 g3 hq => ?_)
    obtain ⟨e, X3, S3⟩ := hq
    cases e
    rw [e5, e6] at X3
    exact ex_vret dSear_put_85 rfl (Nat.le_refl _) (Nat.le_refl _) ⟨rfl, X3.cut, SS.trans S3⟩
  have t50 : ∀ v5 y z, v5 = (if lowp W p = 0 then ld else ld + 1) → Ex (l, G, d + 5 + 2 * f, 0, 0, h, fun o h' => o = .inl none ∧ Sc h' a x W w u row (sExtC W w u f (row ++ [p]) (if lowp W p = 0 then ld else ld + 1) (if upp W p = 0 then ud else ud + 1) s) ∧ Sm h h' a (a + 5)) mSear_put 50 [some (.ref a), some (.int (nI p)), some (.int (nI n)), some (.int (nI ld)), some (.int (nI ud)), y, z] [.int (nI v5)] g2 0 0 := by
    intro v5 y z e5
    have o1 := HE2.o1
    have hbp := (hb.2.1 p).2
    refine ex_istore (L' := [_, _, _, _, _, _, _]) dSear_put_50 (by decide) rfl ?_
    refine ex_aload_n dSear_put_52 rfl ?_
    refine ex_get dSear_put_53 fg_Sear_27_Comp X.1.1 rfl ?_
    refine ex_iload_n dSear_put_56 rfl ?_
    refine ex_v1 dSear_put_57 iv_Sear_54 cd_Pairs_upperOf ar_Pairs_upperOf o1 (c_Pairs_upperOf (d := d) (i := p) hp HE2.1) (by dsimp only; omega) (Nat.le_of_ble_eq_true rfl) (Nat.le_refl _) (Nat.le_refl _) (fun E h9 q9 => by simp at q9) (fun v9 hp9 hq => ?_)
    obtain ⟨e, e1⟩ := hq
    cases e
    rw [e1]
    refine ex_if_ne (tgt := 68) dSear_put_60 (by decide) (fun hc => ?_) (fun hc => ?_)
    · have q : ¬ upp W p = 0 := fun q => hc (by rw [show (W.1.getD p (0, 0)).2 = 0 from q]; rfl)
      refine ex_iload dSear_put_68 rfl ?_
      refine ex_iconst (v := nI 1) dSear_put_70 (by decide) ?_
      refine ex_iadd dSear_put_71 ?_
      rw [show nI ud + nI 1 = nI (ud + 1) from nI_add _ _]
      exact t72 v5 _ _ e5 (by rw [if_neg q])
    · have q : upp W p = 0 := (nI_eq (b := 0) (by omega) (by omega)).mp hc
      refine ex_iload dSear_put_63 rfl ?_
      refine ex_goto (tgt := 72) dSear_put_65 (by decide) ?_
      exact t72 v5 _ _ e5 (by rw [if_pos q])
  refine xMet_of (L := [_, _, _, _, _, _, _]) (by decide) (Nat.le_of_ble_eq_true rfl) rfl ?_
  refine ex_aload_n dSear_put_0 rfl ?_
  refine ex_get dSear_put_1 fg_Sear_20_Comp h1 rfl ?_
  refine ex_iload_n dSear_put_4 rfl ?_
  refine ex_iload_n dSear_put_5 rfl ?_
  refine ex_iastore dSear_put_6 h3 rfl (by omega) (by omega) ?_
  have o2 := HE1.o2
  have o3 := HE1.2.2.2.1.o
  refine ex_aload_n dSear_put_7 rfl ?_
  refine ex_get dSear_put_8 fg_Sear_24_Comp k1 rfl ?_
  refine ex_iload_n dSear_put_11 rfl ?_
  refine ex_iconst (v := nI 1) dSear_put_12 (by decide) ?_
  refine ex_iadd dSear_put_13 ?_
  refine ex_aload_n dSear_put_14 rfl ?_
  refine ex_get dSear_put_15 fg_Sear_31_Comp k1 rfl ?_
  refine ex_get dSear_put_18 fg_Sear_39 o2 rfl ?_
  refine ex_aload_n dSear_put_21 rfl ?_
  refine ex_get dSear_put_22 fg_Sear_24_Comp k1 rfl ?_
  refine ex_iload_n dSear_put_25 rfl ?_
  refine ex_iaload dSear_put_26 k4 rfl (by omega) (by omega) ?_
  refine ex_iload_n dSear_put_27 rfl ?_
  rw [show f4 n = nI (sbef W row) from by rw [e4 n (by omega)]; dsimp only; rw [List.take_of_length_le (show row.length ≤ n by omega)], show nI n + nI 1 = nI (n + 1) from nI_add _ _]
  refine ex_v2 dSear_put_28 iv_Sear_93 cd_Patt_next ar_Patt_next o3 (c_Patt_next (d := d) (s := sbef W row) (i := p) (by omega) HE1.2.2.2.1) (by dsimp only; omega) (Nat.le_of_ble_eq_true rfl) (Nat.le_refl _) (Nat.le_refl _) (fun E h9 q9 => by simp at q9) (fun v9 hp9 hq => ?_)
  obtain ⟨e, e1⟩ := hq
  cases e
  rw [e1]
  rw [show pnext (W.2.2.2.1.2.1 p) W.2.2.2.1.2.2.1 W.2.2.2.1.2.2.2.2 (sbef W row) = sbef W (row ++ [p]) from (sbef_snoc W row p).symm]
  refine ex_iastore dSear_put_31 k4 rfl (by omega) (by omega) ?_
  rw [hg2]
  have o1 := HE2.o1
  have hbp := (hb.2.1 p).1
  refine ex_aload_n dSear_put_32 rfl ?_
  refine ex_get dSear_put_33 fg_Sear_27_Comp X.1.1 rfl ?_
  refine ex_iload_n dSear_put_36 rfl ?_
  refine ex_v1 dSear_put_37 iv_Sear_97 cd_Pairs_lowerOf ar_Pairs_lowerOf o1 (c_Pairs_lowerOf (d := d) (i := p) hp HE2.1) (by dsimp only; omega) (Nat.le_of_ble_eq_true rfl) (Nat.le_refl _) (Nat.le_refl _) (fun E h9 q9 => by simp at q9) (fun v8 hp8 hq => ?_)
  obtain ⟨e, e1⟩ := hq
  cases e
  rw [e1]
  refine ex_if_ne (tgt := 47) dSear_put_40 (by decide) (fun hc => ?_) (fun hc => ?_)
  · have q : ¬ lowp W p = 0 := fun q => hc (by rw [show (W.1.getD p (0, 0)).1 = 0 from q]; rfl)
    refine ex_iload_n dSear_put_47 rfl ?_
    refine ex_iconst (v := nI 1) dSear_put_48 (by decide) ?_
    refine ex_iadd dSear_put_49 ?_
    rw [show nI ld + nI 1 = nI (ld + 1) from nI_add _ _]
    exact t50 _ _ _ (by rw [if_neg q])
  · have q : lowp W p = 0 := (nI_eq (b := 0) (by omega) (by omega)).mp hc
    refine ex_iload_n dSear_put_43 rfl ?_
    refine ex_goto (tgt := 50) dSear_put_44 (by decide) ?_
    exact t50 _ _ _ (by rw [if_pos q])
theorem c_extend_Comp {d : Nat} (hax : x + 17 ≤ a) : ∀ f : Nat, ∀ (row : List Nat) (n ld ud : Nat) (s : Bool × Bool × Nat) (h : xH), row.length = n → n + f = 9 → ld ≤ n → ud ≤ n → Ev h x W → Sc h a x W w u row s → xMet l G mSear_extend (d + 4 + 2 * f) 0 0 [.ref a, .int (nI n), .int (nI ld), .int (nI ud)] h (fun o h' => o = .inl none ∧ Sc h' a x W w u row (sExtC W w u f row ld ud s) ∧ Sm h h' a (a + 5)) := by
  intro f
  induction f with
  | zero =>
    intro row n ld ud s h hn hf hld hud HE H
    have at29' : ∀ hi : xH, Sc hi a x W w u row (if ld = w.length ∧ meC u ud = true then meetC W s row else s) → Sm h hi a (a + 5) → Ex (l, G, d + 4 + 2 * 0, 0, 0, h, fun o h' => o = .inl none ∧ Sc h' a x W w u row (sExtC W w u 0 row ld ud s) ∧ Sm h h' a (a + 5)) mSear_extend 29 [some (.ref a), some (.int (nI n)), some (.int (nI ld)), some (.int (nI ud)), none] [] hi 0 0 := by
      intro hi X S
      refine ex_iload_n dSear_extend_29 rfl ?_
      refine ex_bipush (v := nI 9) dSear_extend_30 (by decide) ?_
      refine ex_icmp_lt (tgt := 36) dSear_extend_32 (by decide) (fun hc => ?_) (fun hc => ?_)
      · exact absurd hc (nI_nlt (by omega) (by omega))
      · exact ex_vret dSear_extend_35 rfl (Nat.le_refl _) (Nat.le_refl _) ⟨rfl, X, S⟩
    have at29 : ∀ hi : xH, (if ld = w.length ∧ meC u ud = true then meetC W s row else s) = s → Sm h h a (a + 5) → Ex (l, G, d + 4 + 2 * 0, 0, 0, h, fun o h' => o = .inl none ∧ Sc h' a x W w u row (sExtC W w u 0 row ld ud s) ∧ Sm h h' a (a + 5)) mSear_extend 29 [some (.ref a), some (.int (nI n)), some (.int (nI ld)), some (.int (nI ud)), none] [] h 0 0 := fun _ e S => at29' h (by rw [e]; exact H) S
    have L2 := H.1.2.1
    obtain ⟨fl, l1, l2, l3, l4, l5⟩ := L2
    refine xMet_of (L := [_, _, _, _, _]) (by decide) (Nat.le_of_ble_eq_true rfl) rfl ?_
    refine ex_iload_n dSear_extend_0 rfl ?_
    refine ex_aload_n dSear_extend_1 rfl ?_
    refine ex_get dSear_extend_2 fg_Sear_14_Comp H.1.1 rfl ?_
    refine ex_v0 dSear_extend_5 iv_Sear_60 cd_Line_size ar_Line_size l1 (c_Line_size (d := d) H.1.2.1) (by dsimp only; omega) (Nat.le_of_ble_eq_true rfl) (Nat.le_refl _) (Nat.le_refl _) (fun E h9 q9 => by simp at q9) (fun v9 hp9 hq => ?_)
    obtain ⟨e, e1⟩ := hq
    cases e
    rw [e1]
    refine ex_icmp_ne (tgt := 29) dSear_extend_8 (by decide) (fun hc => ?_) (fun hc => ?_)
    · exact at29 h (if_neg (fun q => hc (by rw [q.1]))) Sm.rf
    have hl : ld = w.length := (nI_eq (by omega) (by omega)).mp hc
    refine ex_aload_n dSear_extend_11 rfl ?_
    refine ex_iload_n dSear_extend_12 rfl ?_
    refine ex_u1 dSear_extend_13 iu_Sear_63_Comp cd_Comp_mayEnd ar_Comp_mayEnd H.1.1 (c_Comp_mayEnd (d := d) (n := ud) (by omega) H) (by dsimp only; omega) (Nat.le_of_ble_eq_true rfl) (Nat.le_refl _) (Nat.le_refl _) (fun E h9 q9 => by simp at q9) (fun v8 hp8 hq => ?_)
    obtain ⟨e, e1⟩ := hq
    cases e
    rw [e1]
    refine ex_if_eq (tgt := 29) dSear_extend_16 (by decide) (fun hc2 => ?_) (fun hc2 => ?_)
    · exact at29 h (if_neg (fun q => by rw [bI_0.mp hc2] at q; exact absurd q.2 (by decide))) Sm.rf
    have hm : meC u ud = true := by cases hq9 : meC u ud; rw [hq9] at hc2; exact absurd rfl hc2; rfl
    refine ex_aload_n dSear_extend_19 rfl ?_
    refine ex_iload_n dSear_extend_20 rfl ?_
    refine ex_aload_n dSear_extend_21 rfl ?_
    refine ex_iload_n dSear_extend_22 rfl ?_
    have HB := c_brokenRules_Comp (l := l) (G := G) (d := d) HE H.1
    rw [hn] at HB
    refine ex_p1 dSear_extend_23 ip_Sear_67 cd_Sear_brokenRules ar_Sear_brokenRules H.1.1 (HB) (by dsimp only; omega) (Nat.le_of_ble_eq_true rfl) (Nat.le_refl _) (Nat.le_refl _) (fun E h9 q9 => by simp at q9) (fun v7 hp7 hq => ?_)
    obtain ⟨e, e1⟩ := hq
    cases e
    rw [e1]
    refine ex_u2 dSear_extend_26 iu_Sear_70_Comp cd_Comp_meet ar_Comp_meet H.1.1 (c_Comp_meet (d := d) (n := n) (brkn_lt HE.b.2.2) H) (by dsimp only; omega) (Nat.le_of_ble_eq_true rfl) (Nat.le_refl _) (Nat.le_refl _) (fun E h9 q9 => by simp at q9) (fun v6 g1 hq => ?_)
    obtain ⟨e, X1, S1⟩ := hq
    cases e
    refine at29' g1 ?_ (S1.wide (by omega) (by omega))
    rw [if_pos ⟨hl, hm⟩]
    exact X1
  | succ f ih =>
    intro row n ld ud s h hn hf hld hud HE H
    have hF : sExtC W w u (f + 1) row ld ud s = (List.range' 0 W.1.length).foldl (fun s p => if dnC s then s else if fitL W w row ld p && fitU (tkC u) W ud p then sExtC W w u f (row ++ [p]) (if lowp W p = 0 then ld else ld + 1) (if upp W p = 0 then ud else ud + 1) s else s) (if ld = w.length ∧ meC u ud = true then meetC W s row else s) := by
      rw [← List.range_eq_range']; rfl
    have loop : ∀ (j i : Nat) (hi : xH) (s' : Bool × Bool × Nat), i + j = W.1.length → Sc hi a x W w u row s' → Sm h hi a (a + 5) → (List.range' i j).foldl (fun s p => if dnC s then s else if fitL W w row ld p && fitU (tkC u) W ud p then sExtC W w u f (row ++ [p]) (if lowp W p = 0 then ld else ld + 1) (if upp W p = 0 then ud else ud + 1) s else s) s' = sExtC W w u (f + 1) row ld ud s → Ex (l, G, d + 4 + 2 * (f + 1), 0, 0, h, fun o h' => o = .inl none ∧ Sc h' a x W w u row (sExtC W w u (f + 1) row ld ud s) ∧ Sm h h' a (a + 5)) mSear_extend 39 [some (.ref a), some (.int (nI n)), some (.int (nI ld)), some (.int (nI ud)), some (.int (nI i))] [] hi 0 0 := by
      intro j
      induction j with
      | zero =>
        intro i hi s' hij X S hfo
        have HEi := HE.sm S (by omega)
        have o1 := HEi.o1
        have hb := HEi.b
        refine ex_iload dSear_extend_39 rfl ?_
        refine ex_aload_n dSear_extend_41 rfl ?_
        refine ex_get dSear_extend_42 fg_Sear_27_Comp X.1.1 rfl ?_
        refine ex_v0 dSear_extend_45 iv_Sear_74 cd_Pairs_count ar_Pairs_count o1 (c_Pairs_count (d := d) HEi.1) (by dsimp only; omega) (Nat.le_of_ble_eq_true rfl) (Nat.le_refl _) (Nat.le_refl _) (fun E h9 q9 => by simp at q9) (fun v9 hp9 hq => ?_)
        obtain ⟨e, e1⟩ := hq
        cases e
        rw [e1]
        refine ex_icmp_ge (tgt := 94) dSear_extend_48 (by decide) (fun hc => ?_) (fun hc => ?_)
        · exact ex_vret dSear_extend_94 rfl (Nat.le_refl _) (Nat.le_refl _) ⟨rfl, by rw [← hfo]; exact X, S⟩
        · exact absurd (nI_le (by omega) (by omega)) hc
      | succ j ihj =>
        intro i hi s' hij X S hfo
        have HEi := HE.sm S (by omega)
        have o1 := HEi.o1
        have hb := HEi.b
        rw [List.range'_succ, List.foldl_cons] at hfo
        have next : ∀ (hk : xH) (s2 : Bool × Bool × Nat), Sc hk a x W w u row s2 → Sm h hk a (a + 5) → (if dnC s' then s' else if fitL W w row ld i && fitU (tkC u) W ud i then sExtC W w u f (row ++ [i]) (if lowp W i = 0 then ld else ld + 1) (if upp W i = 0 then ud else ud + 1) s' else s') = s2 → Ex (l, G, d + 4 + 2 * (f + 1), 0, 0, h, fun o h' => o = .inl none ∧ Sc h' a x W w u row (sExtC W w u (f + 1) row ld ud s) ∧ Sm h h' a (a + 5)) mSear_extend 88 [some (.ref a), some (.int (nI n)), some (.int (nI ld)), some (.int (nI ud)), some (.int (nI i))] [] hk 0 0 := by
          intro hk s2 X2 S2 e2
          rw [e2] at hfo
          refine ex_iinc (L' := [_, _, _, _, _]) dSear_extend_88 rfl rfl (by decide) rfl ?_
          refine ex_goto (tgt := 39) dSear_extend_91 (by decide) ?_
          rw [show nI i + Int32.ofInt 1 = nI (i + 1) from nI_1 i]
          exact ihj (i + 1) hk s2 (by omega) X2 S2 hfo
        refine ex_iload dSear_extend_39 rfl ?_
        refine ex_aload_n dSear_extend_41 rfl ?_
        refine ex_get dSear_extend_42 fg_Sear_27_Comp X.1.1 rfl ?_
        refine ex_v0 dSear_extend_45 iv_Sear_74 cd_Pairs_count ar_Pairs_count o1 (c_Pairs_count (d := d) HEi.1) (by dsimp only; omega) (Nat.le_of_ble_eq_true rfl) (Nat.le_refl _) (Nat.le_refl _) (fun E h9 q9 => by simp at q9) (fun v9 hp9 hq => ?_)
        obtain ⟨e, e1⟩ := hq
        cases e
        rw [e1]
        refine ex_icmp_ge (tgt := 94) dSear_extend_48 (by decide) (fun hc => ?_) (fun hc => ?_)
        · exact absurd hc (nI_ge (by omega) (by omega))
        refine ex_aload_n dSear_extend_51 rfl ?_
        refine ex_u0 dSear_extend_52 iu_Sear_77_Comp cd_Comp_isDone ar_Comp_isDone X.1.1 (c_Comp_isDone (d := d) X) (by dsimp only; omega) (Nat.le_of_ble_eq_true rfl) (Nat.le_refl _) (Nat.le_refl _) (fun E h9 q9 => by simp at q9) (fun v8 hp8 hq => ?_)
        obtain ⟨e, e1⟩ := hq
        cases e
        rw [e1]
        refine ex_if_ne (tgt := 94) dSear_extend_55 (by decide) (fun hc2 => ?_) (fun hc2 => ?_)
        · have hd : dnC s' = true := by unfold dnC; cases hq9 : s'.2.1; rw [hq9] at hc2; exact absurd rfl hc2; rfl
          rw [if_pos hd] at hfo
          rw [foldl_stop _ (fun q => by rw [if_pos hd])] at hfo
          exact ex_vret dSear_extend_94 rfl (Nat.le_refl _) (Nat.le_refl _) ⟨rfl, by rw [← hfo]; exact X, S⟩
        have hd : ¬ dnC s' = true := by unfold dnC; rw [bI_0.mp hc2]; decide
        refine ex_aload_n dSear_extend_58 rfl ?_
        refine ex_iload dSear_extend_59 rfl ?_
        refine ex_iload_n dSear_extend_61 rfl ?_
        refine ex_iload_n dSear_extend_62 rfl ?_
        have HL := c_fitsLower_Comp (l := l) (G := G) (d := d) (ld := ld) (p := i) (by omega) (by omega) HEi X.1
        rw [hn] at HL
        refine ex_p3 dSear_extend_63 ip_Sear_81 cd_Sear_fitsLower ar_Sear_fitsLower X.1.1 (HL) (by dsimp only; omega) (Nat.le_of_ble_eq_true rfl) (Nat.le_refl _) (Nat.le_refl _) (fun E h9 q9 => by simp at q9) (fun v7 hp7 hq => ?_)
        obtain ⟨e, e1⟩ := hq
        cases e
        rw [e1]
        refine ex_if_eq (tgt := 88) dSear_extend_66 (by decide) (fun hc3 => ?_) (fun hc3 => ?_)
        · exact next hi s' X S (by rw [if_neg hd, bI_0.mp hc3]; rfl)
        have hfl : fitL W w row ld i = true := by cases hq9 : fitL W w row ld i; rw [hq9] at hc3; exact absurd rfl hc3; rfl
        refine ex_aload_n dSear_extend_69 rfl ?_
        refine ex_iload dSear_extend_70 rfl ?_
        refine ex_iload_n dSear_extend_72 rfl ?_
        refine ex_p2 dSear_extend_73 ip_Sear_85 cd_Sear_fitsUpper ar_Sear_fitsUpper X.1.1 (c_fitsUpper_Comp (d := d) (p := i) (ud := ud) (by omega) (by omega) HEi X) (by dsimp only; omega) (Nat.le_of_ble_eq_true rfl) (Nat.le_refl _) (Nat.le_refl _) (fun E h9 q9 => by simp at q9) (fun v6 hp6 hq => ?_)
        obtain ⟨e, e1⟩ := hq
        cases e
        rw [e1]
        refine ex_if_eq (tgt := 88) dSear_extend_76 (by decide) (fun hc4 => ?_) (fun hc4 => ?_)
        · exact next hi s' X S (by rw [if_neg hd, bI_0.mp hc4, Bool.and_false]; rfl)
        have hfu : fitU (tkC u) W ud i = true := by cases hq9 : fitU (tkC u) W ud i; rw [hq9] at hc4; exact absurd rfl hc4; rfl
        refine ex_aload_n dSear_extend_79 rfl ?_
        refine ex_iload dSear_extend_80 rfl ?_
        refine ex_iload_n dSear_extend_82 rfl ?_
        refine ex_iload_n dSear_extend_83 rfl ?_
        refine ex_iload_n dSear_extend_84 rfl ?_
        refine ex_p4 dSear_extend_85 ip_Sear_89 cd_Sear_put ar_Sear_put X.1.1 (c_put_Comp (d := d) (f := f) hax ih (row := row) (n := n) (ld := ld) (ud := ud) (p := i) (s := s') (h := hi) hn (by omega) hld hud (by omega) HEi X) (by dsimp only; omega) (Nat.le_of_ble_eq_true rfl) (Nat.le_refl _) (Nat.le_refl _) (fun E h9 q9 => by simp at q9) (fun v5 g5 hq => ?_)
        obtain ⟨e, X5, S5⟩ := hq
        cases e
        exact next g5 _ X5 (S.trans S5) (by rw [if_neg hd, hfl, hfu]; rfl)
    have at29' : ∀ hi : xH, Sc hi a x W w u row (if ld = w.length ∧ meC u ud = true then meetC W s row else s) → Sm h hi a (a + 5) → Ex (l, G, d + 4 + 2 * (f + 1), 0, 0, h, fun o h' => o = .inl none ∧ Sc h' a x W w u row (sExtC W w u (f + 1) row ld ud s) ∧ Sm h h' a (a + 5)) mSear_extend 29 [some (.ref a), some (.int (nI n)), some (.int (nI ld)), some (.int (nI ud)), none] [] hi 0 0 := by
      intro hi X S
      refine ex_iload_n dSear_extend_29 rfl ?_
      refine ex_bipush (v := nI 9) dSear_extend_30 (by decide) ?_
      refine ex_icmp_lt (tgt := 36) dSear_extend_32 (by decide) (fun hc => ?_) (fun hc => ?_)
      · refine ex_iconst (v := nI 0) dSear_extend_36 (by decide) ?_
        refine ex_istore (L' := [_, _, _, _, _]) dSear_extend_37 (by decide) rfl ?_
        exact loop W.1.length 0 hi _ (by omega) X S hF.symm
      · exact absurd (nI_lt (by omega) (by omega)) hc
    have at29 : ∀ hi : xH, (if ld = w.length ∧ meC u ud = true then meetC W s row else s) = s → Sm h h a (a + 5) → Ex (l, G, d + 4 + 2 * (f + 1), 0, 0, h, fun o h' => o = .inl none ∧ Sc h' a x W w u row (sExtC W w u (f + 1) row ld ud s) ∧ Sm h h' a (a + 5)) mSear_extend 29 [some (.ref a), some (.int (nI n)), some (.int (nI ld)), some (.int (nI ud)), none] [] h 0 0 := fun _ e S => at29' h (by rw [e]; exact H) S
    have L2 := H.1.2.1
    obtain ⟨fl, l1, l2, l3, l4, l5⟩ := L2
    refine xMet_of (L := [_, _, _, _, _]) (by decide) (Nat.le_of_ble_eq_true rfl) rfl ?_
    refine ex_iload_n dSear_extend_0 rfl ?_
    refine ex_aload_n dSear_extend_1 rfl ?_
    refine ex_get dSear_extend_2 fg_Sear_14_Comp H.1.1 rfl ?_
    refine ex_v0 dSear_extend_5 iv_Sear_60 cd_Line_size ar_Line_size l1 (c_Line_size (d := d) H.1.2.1) (by dsimp only; omega) (Nat.le_of_ble_eq_true rfl) (Nat.le_refl _) (Nat.le_refl _) (fun E h9 q9 => by simp at q9) (fun v9 hp9 hq => ?_)
    obtain ⟨e, e1⟩ := hq
    cases e
    rw [e1]
    refine ex_icmp_ne (tgt := 29) dSear_extend_8 (by decide) (fun hc => ?_) (fun hc => ?_)
    · exact at29 h (if_neg (fun q => hc (by rw [q.1]))) Sm.rf
    have hl : ld = w.length := (nI_eq (by omega) (by omega)).mp hc
    refine ex_aload_n dSear_extend_11 rfl ?_
    refine ex_iload_n dSear_extend_12 rfl ?_
    refine ex_u1 dSear_extend_13 iu_Sear_63_Comp cd_Comp_mayEnd ar_Comp_mayEnd H.1.1 (c_Comp_mayEnd (d := d) (n := ud) (by omega) H) (by dsimp only; omega) (Nat.le_of_ble_eq_true rfl) (Nat.le_refl _) (Nat.le_refl _) (fun E h9 q9 => by simp at q9) (fun v8 hp8 hq => ?_)
    obtain ⟨e, e1⟩ := hq
    cases e
    rw [e1]
    refine ex_if_eq (tgt := 29) dSear_extend_16 (by decide) (fun hc2 => ?_) (fun hc2 => ?_)
    · exact at29 h (if_neg (fun q => by rw [bI_0.mp hc2] at q; exact absurd q.2 (by decide))) Sm.rf
    have hm : meC u ud = true := by cases hq9 : meC u ud; rw [hq9] at hc2; exact absurd rfl hc2; rfl
    refine ex_aload_n dSear_extend_19 rfl ?_
    refine ex_iload_n dSear_extend_20 rfl ?_
    refine ex_aload_n dSear_extend_21 rfl ?_
    refine ex_iload_n dSear_extend_22 rfl ?_
    have HB := c_brokenRules_Comp (l := l) (G := G) (d := d) HE H.1
    rw [hn] at HB
    refine ex_p1 dSear_extend_23 ip_Sear_67 cd_Sear_brokenRules ar_Sear_brokenRules H.1.1 (HB) (by dsimp only; omega) (Nat.le_of_ble_eq_true rfl) (Nat.le_refl _) (Nat.le_refl _) (fun E h9 q9 => by simp at q9) (fun v7 hp7 hq => ?_)
    obtain ⟨e, e1⟩ := hq
    cases e
    rw [e1]
    refine ex_u2 dSear_extend_26 iu_Sear_70_Comp cd_Comp_meet ar_Comp_meet H.1.1 (c_Comp_meet (d := d) (n := n) (brkn_lt HE.b.2.2) H) (by dsimp only; omega) (Nat.le_of_ble_eq_true rfl) (Nat.le_refl _) (Nat.le_refl _) (fun E h9 q9 => by simp at q9) (fun v6 g1 hq => ?_)
    obtain ⟨e, X1, S1⟩ := hq
    cases e
    refine at29' g1 ?_ (S1.wide (by omega) (by omega))
    rw [if_pos ⟨hl, hm⟩]
    exact X1
end COMP
