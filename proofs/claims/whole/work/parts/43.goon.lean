/-! Lexicon.goOn and put, at the addresses that they have in a PairedWords at x. -/
def F3 (h h' : xH) (x : Nat) : Prop := h'.1 = h.1 ∧ ∀ q : Nat, (q < x + 21 ∨ x + 24 ≤ q) → (q < x + 81 ∨ x + 90 ≤ q) → h'.2 q = h.2 q
theorem F3.rf {h : xH} {x : Nat} : F3 h h x := ⟨rfl, fun _ _ _ => rfl⟩
theorem F3.trans {h h1 h2 : xH} {x : Nat} (p : F3 h h1 x) (q : F3 h1 h2 x) : F3 h h2 x := ⟨q.1.trans p.1, fun z h1 h2 => (q.2 z h1 h2).trans (p.2 z h1 h2)⟩
theorem F3.of {h h1 : xH} {x lo hi : Nat} (p : Sm h h1 lo hi) (hd : (x + 21 ≤ lo ∧ hi ≤ x + 24) ∨ (x + 81 ≤ lo ∧ hi ≤ x + 90)) : F3 h h1 x := ⟨p.1, fun z h1 h2 => p.2 z (by omega)⟩
def St3 (h : xH) (x : Nat) (W : xW) (es : List xEn) (u : List Nat) : Prop := Ev h x W ∧ Lx h (x + 17) es ∧ Ln h (x + 42) 5 u
theorem St3.f3 {h h' : xH} {x : Nat} {W : xW} {es : List xEn} {u : List Nat} (H : St3 h x W es u) (F : F3 h h' x) : St3 h' x W es u := by
  have S1 : Sm h (h.1, fun q => if x + 21 ≤ q ∧ q < x + 24 then h'.2 q else h.2 q) (x + 21) (x + 24) := ⟨rfl, fun q hq => by dsimp only; rw [if_neg (by omega)]⟩
  have S2 : Sm (h.1, fun q => if x + 21 ≤ q ∧ q < x + 24 then h'.2 q else h.2 q) h' (x + 81) (x + 90) := ⟨F.1, fun q hq => by
    dsimp only
    split
    · rfl
    · exact F.2 q (by omega) (by omega)⟩
  exact ⟨(H.1.sm S1 (by omega)).sm S2 (by omega), (H.2.1.sm S1 (by omega)).sm S2 (by omega), (H.2.2.sm S1 (by omega)).sm S2 (by omega)⟩
def Dy (h : xH) (x : Nat) (wd ws : List Nat) (s : List Nat × Bool) : Prop := IA h (x + 21) 4 wd.length (fun j => wd.getD j 0) ∧ Ln h (x + 22) 4 ws ∧ Rs h (x + 81) s.1 s.2 ∧ ∃ c, Ci h (x + 83) x c
theorem Dy.cut {h : xH} {x : Nat} {wd ws : List Nat} {e : Nat} {s : List Nat × Bool} (H : Dy h x (wd ++ [e]) ws s) : Dy h x wd ws s := ⟨H.1.to (by simp) (fun j hj => by rw [getD_snoc' (by omega)]), H.2⟩
def EB (es : List xEn) : Prop := ∀ q ∈ es, q.1 < 4 ∧ (∀ p, q.2.1 = some p → p < 4) ∧ ∀ i, q.2.2.getD i 0 < 8
theorem rkey_lt {w : List Nat} {es : Nat → Nat} {n : Nat} (h1 : w.length ≤ 5) (h2 : ∀ i, w.getD i 0 < 8) (h3 : n ≤ 4) (h4 : ∀ i, i < n → es i < 8) : rkey w es n < 2 ^ 62 := by
  unfold rkey
  refine Nat.lt_of_lt_of_le (kcat_lt (fun i _ => by split; exact h4 i (by assumption); decide)) ?_
  have a1 := kcat_lt (k := w.length) (f := fun i => w.getD i 0) (n := 5) (fun i _ => h2 i)
  have a3 : (w.length + 1) * 8 ^ 5 ≤ 6 * 8 ^ 5 := Nat.mul_le_mul_right _ (by omega)
  exact Nat.le_trans (Nat.mul_le_mul_right _ (show _ ≤ 6 * 8 ^ 5 * 8 + 5 by omega)) (by decide)
def esg (es : List xEn) (e : Nat) : List Nat := (es.getD e en0).2.2
def lxPut (W : xW) (es : List xEn) (u : List Nat) (go : Nat → List Nat → List Nat → List Nat × Bool → List Nat × Bool) (e : Nat) (wd ws : List Nat) (s : List Nat × Bool) : List Nat × Bool :=
  match (es.getD e en0).2.1 with
  | some p => go p (wd ++ [e]) (ws ++ esg es e) s
  | none => if (cmp W (ws ++ esg es e) u).2.1 then radd s (rkey (ws ++ esg es e) (fun j => (wd ++ [e]).getD j 0) (wd.length + 1)) else s
def lxGo (W : xW) (es : List xEn) (u : List Nat) : Nat → Nat → List Nat → List Nat → List Nat × Bool → List Nat × Bool
  | 0, _, _, _, s => s
  | f + 1, part, wd, ws, s => (List.range es.length).foldl (fun s e => if s.2 then s else if (es.getD e en0).1 = part ∧ ws.length + (esg es e).length ≤ 4 then lxPut W es u (lxGo W es u f) e wd ws s else s) s
section GOON
variable {l : Launch} {G : xG} {x : Nat} {W : xW} {es : List xEn} {u : List Nat}
theorem c_Lexi_put {d f : Nat} (hB : EB es) (hu : ∀ i, u.getD i 0 < 8) (ih : ∀ (wd ws : List Nat) (n part : Nat) (s : List Nat × Bool) (h : xH), wd.length = n → n + f = 4 → (∀ q ∈ wd, q < 8) → ws.length ≤ 4 → (∀ i, ws.getD i 0 < 8) → part < 4 → St3 h x W es u → Dy h x wd ws s → xMet l G mLexi_goOn (d + 26 + 2 * f) 0 0 [.ref (x + 17), .int (nI part), .int (nI n), .ref (x + 42), .ref (x + 83), .ref (x + 81)] h (fun o h' => o = .inl none ∧ Dy h' x wd ws (lxGo W es u f part wd ws s) ∧ F3 h h' x)) {wd ws : List Nat} {n e : Nat} {s : List Nat × Bool} {h : xH} (hn : wd.length = n) (hf : n + f = 3) (hwd : ∀ q ∈ wd, q < 8) (hws : ∀ i, ws.getD i 0 < 8) (he : e < es.length) (hroom : ws.length + (esg es e).length ≤ 4) (HS : St3 h x W es u) (H : Dy h x wd ws s) : xMet l G mLexi_put (d + 27 + 2 * f) 0 0 [.ref (x + 17), .int (nI e), .int (nI n), .ref (x + 42), .ref (x + 83), .ref (x + 81)] h (fun o h' => o = .inl none ∧ Dy h' x wd ws (lxPut W es u (lxGo W es u f) e wd ws s) ∧ F3 h h' x) := by
  obtain ⟨HI, HW, HR, cs, HC⟩ := H
  have HS0 := HS
  obtain ⟨HE, HX, HU⟩ := HS
  have HX0 := HX
  obtain ⟨g, fq, h1, ⟨fp, h2, e2⟩, h3, h4, h5, h6, h7, h8⟩ := HX
  obtain ⟨fw, i1, i2⟩ := HI
  have Wc := HW
  obtain ⟨fl, w1, -⟩ := Wc
  have hbe := hB _ (getD_mem (d := en0) he)
  have hsg : ∀ i, (ws ++ esg es e).getD i 0 < 8 := by
    intro i
    rw [List.getD_eq_getElem?_getD]
    by_cases q : i < ws.length
    · rw [List.getElem?_append_left q, ← List.getD_eq_getElem?_getD]; exact hws i
    · rw [List.getElem?_append_right (by omega), ← List.getD_eq_getElem?_getD]; exact hbe.2.2 _
  have hwe : ∀ q ∈ wd ++ [e], q < 8 := fun q hq => by
    rcases List.mem_append.mp hq with q1 | q1
    · exact hwd q q1
    · rw [List.mem_singleton.mp q1]; omega
  have tail : ∀ (hk : xH) (s2 : List Nat × Bool), Dy hk x (wd ++ [e]) (ws ++ esg es e) s2 → F3 h hk x → s2 = lxPut W es u (lxGo W es u f) e wd ws s → Ex (l, G, d + 27 + 2 * f, 0, 0, h, fun o h' => o = .inl none ∧ Dy h' x wd ws (lxPut W es u (lxGo W es u f) e wd ws s) ∧ F3 h h' x) mLexi_put 92 [some (.ref (x + 17)), some (.int (nI e)), some (.int (nI n)), some (.ref (x + 42)), some (.ref (x + 83)), some (.ref (x + 81)), some (.int (nI ws.length))] [] hk 0 0 := by
    intro hk s2 D F e9
    obtain ⟨g', fq', k1, -⟩ := (HS0.f3 F).2.1
    have DW := D.2.1
    obtain ⟨fl', w1', -⟩ := DW
    refine ex_aload_n dLexi_put_92 rfl ?_
    refine ex_get dLexi_put_93 fg_Lexi_30 k1 rfl ?_
    refine ex_iload dLexi_put_96 rfl ?_
    refine ex_v1 dLexi_put_98 iv_Lexi_77 cd_Line_cutTo ar_Line_cutTo w1' (c_Line_cutTo (d := d) (k := ws.length) (by omega) D.2.1) (by dsimp only; omega) (Nat.le_of_ble_eq_true rfl) (Nat.le_refl _) (Nat.le_refl _) (fun E h9 q9 => by simp at q9) (fun v9 g1 hq => ?_)
    obtain ⟨e0, U1, S1⟩ := hq
    cases e0
    rw [List.take_left' rfl] at U1
    obtain ⟨D1, D2, D3, c9, D4⟩ := D.cut
    exact ex_vret dLexi_put_101 rfl (Nat.le_refl _) (Nat.le_refl _) ⟨rfl, ⟨D1.at (S1.2 _ (by omega)), U1, by rw [← e9]; exact D3.sm S1 (by omega), c9, D4.eq (fun q a b => S1.2 q (by omega))⟩, F.trans (F3.of S1 (by omega))⟩
  refine xMet_of (L := [_, _, _, _, _, _, _]) (by decide) (Nat.le_of_ble_eq_true rfl) rfl ?_
  refine ex_aload_n dLexi_put_0 rfl ?_
  refine ex_get dLexi_put_1 fg_Lexi_30 h1 rfl ?_
  refine ex_v0 dLexi_put_4 iv_Lexi_52 cd_Line_size ar_Line_size w1 (c_Line_size (d := d) HW) (by dsimp only; omega) (Nat.le_of_ble_eq_true rfl) (Nat.le_refl _) (Nat.le_refl _) (fun E h9 q9 => by simp at q9) (fun v9 hp9 hq => ?_)
  obtain ⟨e, e1⟩ := hq
  cases e
  rw [e1]
  refine ex_istore (L' := [_, _, _, _, _, _, _]) dLexi_put_7 (by decide) rfl ?_
  refine ex_aload_n dLexi_put_9 rfl ?_
  refine ex_get dLexi_put_10 fg_Lexi_24 h1 rfl ?_
  refine ex_iload_n dLexi_put_13 rfl ?_
  refine ex_iload_n dLexi_put_14 rfl ?_
  refine ex_iastore dLexi_put_15 i1 rfl (by omega) (by omega) ?_
  have S1 : Sm h (xup h (x + 21) (cI 4 (upd fw n (nI e)))) (x + 21) (x + 22) := Sm.up (by omega) (by omega)
  have k1 := (S1.2 (x + 17) (by omega)).trans h1
  have k5 := (S1.2 (x + 17 + 3) (by omega)).trans h5
  have HW1 := HW.sm S1 (by omega)
  have HL1 := (h7 e (by omega)).sm S1 (by omega)
  have w1b := (S1.2 (x + 22) (by omega)).trans w1
  refine ex_aload_n dLexi_put_16 rfl ?_
  refine ex_get dLexi_put_17 fg_Lexi_30 k1 rfl ?_
  refine ex_aload_n dLexi_put_20 rfl ?_
  refine ex_get dLexi_put_21 fg_Lexi_20 k1 rfl ?_
  refine ex_iload_n dLexi_put_24 rfl ?_
  refine ex_aaload dLexi_put_25 k5 (fun _ => rfl) rfl (by omega) (by omega) (h6 e (by omega)) ?_
  refine ex_v1 dLexi_put_26 iv_Lexi_56 cd_Line_addAll ar_Line_addAll w1b (c_Line_addAll (d := d) HW1 HL1 (by omega)) (by dsimp only; omega) (Nat.le_of_ble_eq_true rfl) (Nat.le_refl _) (Nat.le_refl _) (fun E h9 q9 => by simp at q9) (fun v8 g2 hq => ?_)
  obtain ⟨e0, U2, S2⟩ := hq
  cases e0
  rw [show (es.getD e en0).2.2 = esg es e from rfl, List.take_of_length_le (by rw [List.length_append]; exact hroom)] at U2
  have F : F3 h g2 x := (F3.of S1 (by omega)).trans (F3.of S2 (by omega))
  have D : Dy g2 x (wd ++ [e]) (ws ++ esg es e) s := by
    refine ⟨?_, U2, (HR.sm S1 (by omega)).sm S2 (by omega), cs, HC.eq (fun q a b => (S2.2 q (by omega)).trans (S1.2 q (by omega)))⟩
    subst hn
    refine ((IA.snoc i2).at (S2.2 _ (by omega))).to (by simp) (fun j hj => ?_)
    by_cases e : j = wd.length
    · subst e; rw [va_up_self, getD_snoc]
    · rw [va_up_ne _ _ e, getD_snoc' e]
  have HS2 := HS0.f3 F
  have m1 := (S2.2 (x + 17) (by omega)).trans k1
  have m3 := (S2.2 (x + 17 + 2) (by omega)).trans ((S1.2 (x + 17 + 2) (by omega)).trans h3)
  refine ex_aload_n dLexi_put_29 rfl ?_
  refine ex_get dLexi_put_30 fg_Lexi_15 m1 rfl ?_
  refine ex_iload_n dLexi_put_33 rfl ?_
  refine ex_iaload dLexi_put_34 m3 rfl (by omega) (by omega) ?_
  refine ex_iconst (v := -1) dLexi_put_35 (by decide) ?_
  rw [h4 e he]
  have hne : ∀ p, p < 4 → ¬ nI p = -1 := by decide
  refine ex_icmp_eq (tgt := 60) dLexi_put_36 (by decide) (fun hc => ?_) (fun hc => ?_)
  · have hnx : (es.getD e en0).2.1 = none := by
      cases hq9 : (es.getD e en0).2.1 with
      | none => rfl
      | some p => rw [hq9] at hc; exact absurd hc (hne p (hbe.2.1 p hq9))
    have hput : lxPut W es u (lxGo W es u f) e wd ws s = if (cmp W (ws ++ esg es e) u).2.1 then radd s (rkey (ws ++ esg es e) (fun j => (wd ++ [e]).getD j 0) (wd.length + 1)) else s := by unfold lxPut; rw [hnx]
    obtain ⟨D1, D2, D3, c9, D4⟩ := D
    refine ex_aload dLexi_put_60 rfl ?_
    refine ex_aload_n dLexi_put_62 rfl ?_
    refine ex_get dLexi_put_63 fg_Lexi_30 m1 rfl ?_
    refine ex_aload_n dLexi_put_66 rfl ?_
    have o6 := D4.1
    obtain ⟨w9, o6, -⟩ := o6
    refine ex_v2 dLexi_put_67 iv_Lexi_63 cd_Comp_finds ar_Comp_finds o6 (c_Comp_finds (d := d) (a := x + 83) (v := ws ++ esg es e) (t := u) (by omega) (by omega) (by omega) hsg hu HS2.1 D4 D2 HS2.2.2) (by dsimp only; omega) (Nat.le_of_ble_eq_true rfl) (Nat.le_refl _) (Nat.le_refl _) (fun E h9 q9 => by simp at q9) (fun v7 g3 hq => ?_)
    obtain ⟨e0, C3, S3⟩ := hq
    cases e0
    have F' := F.trans (F3.of S3 (by omega))
    have DD : Dy g3 x (wd ++ [e]) (ws ++ esg es e) s := ⟨D1.at (S3.2 _ (by omega)), D2.sm S3 (by omega), D3.sm S3 (by omega), _, C3⟩
    refine ex_if_eq (tgt := 92) dLexi_put_70 (by decide) (fun hc2 => ?_) (fun hc2 => ?_)
    · exact tail g3 s DD F' (by rw [hput, bI_0.mp hc2]; rfl)
    have hk : (cmp W (ws ++ esg es e) u).2.1 = true := by cases hq9 : (cmp W (ws ++ esg es e) u).2.1; rw [hq9] at hc2; exact absurd rfl hc2; rfl
    have n1 := (S3.2 (x + 17) (by omega)).trans m1
    obtain ⟨gi, j1, j2⟩ := DD.1
    have hes : ∀ i, i < n + 1 → (wd ++ [e]).getD i 0 < 8 := fun i hi => hwe _ (getD_mem (by simp [hn]; omega))
    have Rc := DD.2.2.1
    obtain ⟨rf, r1, -⟩ := Rc
    refine ex_aload dLexi_put_73 rfl ?_
    refine ex_aload_n dLexi_put_75 rfl ?_
    refine ex_get dLexi_put_76 fg_Lexi_30 n1 rfl ?_
    refine ex_aload_n dLexi_put_79 rfl ?_
    refine ex_get dLexi_put_80 fg_Lexi_24 n1 rfl ?_
    refine ex_iload_n dLexi_put_83 rfl ?_
    refine ex_iconst (v := nI 1) dLexi_put_84 (by decide) ?_
    refine ex_iadd dLexi_put_85 ?_
    rw [show nI n + nI 1 = nI (n + 1) from nI_add _ _]
    refine ex_s3 dLexi_put_86 is_Lexi_69 cd_Resu_keyOf ar_Resu_keyOf (c_Resu_keyOf (d := d) (e := x + 21) (n := n + 1) (es := fun j => (wd ++ [e]).getD j 0) (by rw [List.length_append]; omega) hsg (by omega) hes DD.2.1 (Or.inr ⟨gi, j1, fun i hi => j2 i (by simp [hn]; omega)⟩)) (by dsimp only; omega) (Nat.le_of_ble_eq_true rfl) (Nat.le_refl _) (Nat.le_refl _) (fun E h9 q9 => by simp at q9) (fun v6 hp6 hq => ?_)
    obtain ⟨e, e1⟩ := hq
    cases e
    rw [e1]
    refine ex_v1 dLexi_put_89 iv_Lexi_73 cd_Resu_add ar_Resu_add r1 (c_Resu_add (d := d) (rkey_lt (by rw [List.length_append]; omega) hsg (by omega) hes) DD.2.2.1) (by dsimp only; omega) (Nat.le_of_ble_eq_true rfl) (Nat.le_refl _) (Nat.le_refl _) (fun E h9 q9 => by simp at q9) (fun v5 g4 hq => ?_)
    obtain ⟨e0, R4, S4⟩ := hq
    cases e0
    refine tail g4 _ ⟨DD.1.at (S4.2 _ (by omega)), DD.2.1.sm S4 (by omega), R4, _, C3.eq (fun q a b => S4.2 q (by omega))⟩ (F'.trans (F3.of S4 (by omega))) ?_
    rw [hput, hk, hn]; rfl
  · cases hnx : (es.getD e en0).2.1 with
    | none => rw [hnx] at hc; exact absurd rfl hc
    | some p =>
      have hput : lxPut W es u (lxGo W es u f) e wd ws s = lxGo W es u f p (wd ++ [e]) (ws ++ esg es e) s := by unfold lxPut; rw [hnx]
      have hp4 := hbe.2.1 p hnx
      refine ex_aload_n dLexi_put_39 rfl ?_
      refine ex_aload_n dLexi_put_40 rfl ?_
      refine ex_get dLexi_put_41 fg_Lexi_15 m1 rfl ?_
      refine ex_iload_n dLexi_put_44 rfl ?_
      refine ex_iaload dLexi_put_45 m3 rfl (by omega) (by omega) ?_
      refine ex_iload_n dLexi_put_46 rfl ?_
      refine ex_iconst (v := nI 1) dLexi_put_47 (by decide) ?_
      refine ex_iadd dLexi_put_48 ?_
      refine ex_aload_n dLexi_put_49 rfl ?_
      refine ex_aload dLexi_put_50 rfl ?_
      refine ex_aload dLexi_put_52 rfl ?_
      rw [h4 e he, hnx, show nI n + nI 1 = nI (n + 1) from nI_add _ _]
      refine ex_p5 dLexi_put_54 ip_Lexi_60 cd_Lexi_goOn ar_Lexi_goOn m1 (ih (wd ++ [e]) (ws ++ esg es e) (n + 1) p s g2 (by simp [hn]) (by omega) hwe (by rw [List.length_append]; exact hroom) hsg hp4 HS2 D) (by dsimp only; omega) (Nat.le_of_ble_eq_true rfl) (Nat.le_refl _) (Nat.le_refl _) (fun E h9 q9 => by simp at q9) (fun v7 g3 hq => ?_)
      obtain ⟨e0, D3, F4⟩ := hq
      cases e0
      refine ex_goto (tgt := 92) dLexi_put_57 (by decide) ?_
      exact tail g3 _ D3 (F.trans F4) hput.symm
theorem c_Lexi_goOn {d : Nat} (hB : EB es) (hu : ∀ i, u.getD i 0 < 8) : ∀ f : Nat, ∀ (wd ws : List Nat) (n part : Nat) (s : List Nat × Bool) (h : xH), wd.length = n → n + f = 4 → (∀ q ∈ wd, q < 8) → ws.length ≤ 4 → (∀ i, ws.getD i 0 < 8) → part < 4 → St3 h x W es u → Dy h x wd ws s → xMet l G mLexi_goOn (d + 26 + 2 * f) 0 0 [.ref (x + 17), .int (nI part), .int (nI n), .ref (x + 42), .ref (x + 83), .ref (x + 81)] h (fun o h' => o = .inl none ∧ Dy h' x wd ws (lxGo W es u f part wd ws s) ∧ F3 h h' x) := by
  intro f
  induction f with
  | zero =>
    intro wd ws n part s h hn hf hwd hwl hws hp HS H
    refine xMet_of (L := [_, _, _, _, _, _, _]) (by decide) (Nat.le_of_ble_eq_true rfl) rfl ?_
    refine ex_iload_n dLexi_goOn_0 rfl ?_
    refine ex_iconst (v := nI 4) dLexi_goOn_1 (by decide) ?_
    refine ex_icmp_lt (tgt := 6) dLexi_goOn_2 (by decide) (fun hc => ?_) (fun hc => ?_)
    · exact absurd hc (nI_nlt (by omega) (by omega))
    · exact ex_vret dLexi_goOn_5 rfl (Nat.le_refl _) (Nat.le_refl _) ⟨rfl, H, F3.rf⟩
  | succ f ih =>
    intro wd ws n part s h hn hf hwd hwl hws hp HS H
    have hF : lxGo W es u (f + 1) part wd ws s = (List.range' 0 es.length).foldl (fun s e => if s.2 then s else if (es.getD e en0).1 = part ∧ ws.length + (esg es e).length ≤ 4 then lxPut W es u (lxGo W es u f) e wd ws s else s) s := by
      rw [← List.range_eq_range']; rfl
    have loop : ∀ (j i : Nat) (hi : xH) (s' : List Nat × Bool), i + j = es.length → Dy hi x wd ws s' → F3 h hi x → (List.range' i j).foldl (fun s e => if s.2 then s else if (es.getD e en0).1 = part ∧ ws.length + (esg es e).length ≤ 4 then lxPut W es u (lxGo W es u f) e wd ws s else s) s' = lxGo W es u (f + 1) part wd ws s → Ex (l, G, d + 26 + 2 * (f + 1), 0, 0, h, fun o h' => o = .inl none ∧ Dy h' x wd ws (lxGo W es u (f + 1) part wd ws s) ∧ F3 h h' x) mLexi_goOn 9 [some (.ref (x + 17)), some (.int (nI part)), some (.int (nI n)), some (.ref (x + 42)), some (.ref (x + 83)), some (.ref (x + 81)), some (.int (nI i))] [] hi 0 0 := by
      intro j
      induction j with
      | zero =>
        intro i hi s' hij D F hfo
        obtain ⟨-, HX, -⟩ := HS.f3 F
        obtain ⟨g, fq, h1, ⟨fp, h2, e2⟩, h3, h4, h5, h6, h7, h8⟩ := HX
        refine ex_iload dLexi_goOn_9 rfl ?_
        refine ex_aload_n dLexi_goOn_11 rfl ?_
        refine ex_get dLexi_goOn_12 fg_Lexi_34 h1 rfl ?_
        refine ex_icmp_ge (tgt := 72) dLexi_goOn_15 (by decide) (fun hc => ?_) (fun hc => ?_)
        · exact ex_vret dLexi_goOn_72 rfl (Nat.le_refl _) (Nat.le_refl _) ⟨rfl, by rw [← hfo]; exact D, F⟩
        · exact absurd (nI_le (by omega) (by omega)) hc
      | succ j ihj =>
        intro i hi s' hij D F hfo
        have HSi := HS.f3 F
        have HX := HSi.2.1
        obtain ⟨g, fq, h1, ⟨fp, h2, e2⟩, h3, h4, h5, h6, h7, h8⟩ := HX
        rw [List.range'_succ, List.foldl_cons] at hfo
        have next : ∀ (hk : xH) (s2 : List Nat × Bool), Dy hk x wd ws s2 → F3 h hk x → (if s'.2 then s' else if (es.getD i en0).1 = part ∧ ws.length + (esg es i).length ≤ 4 then lxPut W es u (lxGo W es u f) i wd ws s' else s') = s2 → Ex (l, G, d + 26 + 2 * (f + 1), 0, 0, h, fun o h' => o = .inl none ∧ Dy h' x wd ws (lxGo W es u (f + 1) part wd ws s) ∧ F3 h h' x) mLexi_goOn 66 [some (.ref (x + 17)), some (.int (nI part)), some (.int (nI n)), some (.ref (x + 42)), some (.ref (x + 83)), some (.ref (x + 81)), some (.int (nI i))] [] hk 0 0 := by
          intro hk s2 D2 F2 e9
          rw [e9] at hfo
          refine ex_iinc (L' := [_, _, _, _, _, _, _]) dLexi_goOn_66 rfl rfl (by decide) rfl ?_
          refine ex_goto (tgt := 9) dLexi_goOn_69 (by decide) ?_
          rw [show nI i + Int32.ofInt 1 = nI (i + 1) from nI_1 i]
          exact ihj (i + 1) hk s2 (by omega) D2 F2 hfo
        have Rc := D.2.2.1
        obtain ⟨rf, r1, -⟩ := Rc
        have Wc := D.2.1
        obtain ⟨fl, w1, -⟩ := Wc
        refine ex_iload dLexi_goOn_9 rfl ?_
        refine ex_aload_n dLexi_goOn_11 rfl ?_
        refine ex_get dLexi_goOn_12 fg_Lexi_34 h1 rfl ?_
        refine ex_icmp_ge (tgt := 72) dLexi_goOn_15 (by decide) (fun hc => ?_) (fun hc => ?_)
        · exact absurd hc (nI_ge (by omega) (by omega))
        refine ex_aload dLexi_goOn_18 rfl ?_
        refine ex_v0 dLexi_goOn_20 iv_Lexi_38 cd_Resu_isTooMany ar_Resu_isTooMany r1 (c_Resu_isTooMany (d := d) D.2.2.1) (by dsimp only; omega) (Nat.le_of_ble_eq_true rfl) (Nat.le_refl _) (Nat.le_refl _) (fun E h9 q9 => by simp at q9) (fun v9 hp9 hq => ?_)
        obtain ⟨e, e1⟩ := hq
        cases e
        rw [e1]
        refine ex_if_ne (tgt := 72) dLexi_goOn_23 (by decide) (fun hc2 => ?_) (fun hc2 => ?_)
        · have hd : s'.2 = true := by cases hq9 : s'.2; rw [hq9] at hc2; exact absurd rfl hc2; rfl
          rw [if_pos hd] at hfo
          rw [foldl_stop _ (fun q => by rw [if_pos hd])] at hfo
          exact ex_vret dLexi_goOn_72 rfl (Nat.le_refl _) (Nat.le_refl _) ⟨rfl, by rw [← hfo]; exact D, F⟩
        have hd : ¬ s'.2 = true := by rw [bI_0.mp hc2]; decide
        have hbe := hB _ (getD_mem (d := en0) (show i < es.length by omega))
        refine ex_aload_n dLexi_goOn_26 rfl ?_
        refine ex_get dLexi_goOn_27 fg_Lexi_9 h1 rfl ?_
        refine ex_iload dLexi_goOn_30 rfl ?_
        refine ex_iaload dLexi_goOn_32 h2 rfl (by omega) (by omega) ?_
        refine ex_iload_n dLexi_goOn_33 rfl ?_
        rw [e2 i (by omega)]
        refine ex_icmp_ne (tgt := 66) dLexi_goOn_34 (by decide) (fun hc3 => ?_) (fun hc3 => ?_)
        · exact next hi s' D F (by rw [if_neg hd, if_neg (fun q => hc3 (by rw [← q.1]))])
        have hpt : (es.getD i en0).1 = part := (nI_eq (a := (es.getD i en0).1) (by omega) (by omega)).mp hc3
        refine ex_aload_n dLexi_goOn_37 rfl ?_
        refine ex_get dLexi_goOn_38 fg_Lexi_30 h1 rfl ?_
        refine ex_aload_n dLexi_goOn_41 rfl ?_
        refine ex_get dLexi_goOn_42 fg_Lexi_20 h1 rfl ?_
        refine ex_iload dLexi_goOn_45 rfl ?_
        refine ex_aaload dLexi_goOn_47 h5 (fun _ => rfl) rfl (by omega) (by omega) (h6 i (by omega)) ?_
        refine ex_v1 dLexi_goOn_48 iv_Lexi_44 cd_Line_hasRoomFor ar_Line_hasRoomFor w1 (c_Line_hasRoomFor (d := d) D.2.1 (h7 i (by omega))) (by dsimp only; omega) (Nat.le_of_ble_eq_true rfl) (Nat.le_refl _) (Nat.le_refl _) (fun E h9 q9 => by simp at q9) (fun v8 hp8 hq => ?_)
        obtain ⟨e, e1⟩ := hq
        cases e
        rw [e1]
        refine ex_if_eq (tgt := 66) dLexi_goOn_51 (by decide) (fun hc4 => ?_) (fun hc4 => ?_)
        · refine next hi s' D F ?_
          rw [if_neg hd, if_neg (fun q => ?_)]
          have q2 : ws.length + (es.getD i en0).2.2.length ≤ 4 := q.2
          rw [if_pos q2] at hc4
          exact absurd hc4 (by decide)
        have hrm : ws.length + (esg es i).length ≤ 4 := by
          by_cases q : ws.length + (es.getD i en0).2.2.length ≤ 4
          · exact q
          · rw [if_neg q] at hc4; exact absurd rfl hc4
        refine ex_aload_n dLexi_goOn_54 rfl ?_
        refine ex_iload dLexi_goOn_55 rfl ?_
        refine ex_iload_n dLexi_goOn_57 rfl ?_
        refine ex_aload_n dLexi_goOn_58 rfl ?_
        refine ex_aload dLexi_goOn_59 rfl ?_
        refine ex_aload dLexi_goOn_61 rfl ?_
        refine ex_p5 dLexi_goOn_63 ip_Lexi_48 cd_Lexi_put ar_Lexi_put h1 (c_Lexi_put (d := d) (f := f) hB hu ih (wd := wd) (ws := ws) (n := n) (e := i) (s := s') (h := hi) hn (by omega) hwd hws (by omega) hrm HSi D) (by dsimp only; omega) (Nat.le_of_ble_eq_true rfl) (Nat.le_refl _) (Nat.le_refl _) (fun E h9 q9 => by simp at q9) (fun v7 g5 hq => ?_)
        obtain ⟨e0, D5, F5⟩ := hq
        cases e0
        exact next g5 _ D5 (F.trans F5) (by rw [if_neg hd, if_pos ⟨hpt, hrm⟩])
    refine xMet_of (L := [_, _, _, _, _, _, _]) (by decide) (Nat.le_of_ble_eq_true rfl) rfl ?_
    refine ex_iload_n dLexi_goOn_0 rfl ?_
    refine ex_iconst (v := nI 4) dLexi_goOn_1 (by decide) ?_
    refine ex_icmp_lt (tgt := 6) dLexi_goOn_2 (by decide) (fun hc => ?_) (fun hc => ?_)
    · refine ex_iconst (v := nI 0) dLexi_goOn_6 (by decide) ?_
      refine ex_istore (L' := [_, _, _, _, _, _, _]) dLexi_goOn_7 (by decide) rfl ?_
      exact loop es.length 0 h s (by omega) H F3.rf hF.symm
    · exact absurd (nI_lt (by omega) (by omega)) hc
end GOON
