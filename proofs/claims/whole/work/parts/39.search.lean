/-! The search for alignments. xW: pairs, rules, contexts, the patterns before and behind. -/
abbrev xPt : Type := (Nat → Nat) × (Nat → Nat) × Nat × Nat × Nat
abbrev xW : Type := List (Nat × Nat) × List (Nat × Nat) × (Nat → Nat) × xPt × xPt
def PtA (h : xH) (a : Nat) (fl : Bool) (p : xPt) : Prop := Pt h a fl p.1 p.2.1 p.2.2.1 p.2.2.2.1 p.2.2.2.2
def Ev (h : xH) (x : Nat) (W : xW) : Prop := Prs h (x + 1) W.1 ∧ Ru h (x + 4) W.2.1 W.2.2.1 ∧ Sd h (x + 4) W.2.1 W.1 ∧ PtA h (x + 5) true W.2.2.2.1 ∧ PtA h (x + 8) false W.2.2.2.2
theorem Ev.sm {h h' : xH} {x lo hi : Nat} {W : xW} (H : Ev h x W) (hs : Sm h h' lo hi) (hd : x + 17 ≤ lo ∨ hi ≤ x + 1) : Ev h' x W :=
  ⟨H.1.sm hs (by omega), H.2.1.sm hs (by omega), H.2.2.1.sm hs (by omega), Pt.sm H.2.2.2.1 hs (by omega), Pt.sm H.2.2.2.2 hs (by omega)⟩
def lowp (W : xW) (p : Nat) : Nat := (W.1.getD p (0, 0)).1
def upp (W : xW) (p : Nat) : Nat := (W.1.getD p (0, 0)).2
def pfst (p : xPt) : Nat := pskip p.2.2.1 p.2.2.2.1
def pnx (p : xPt) (s i : Nat) : Nat := pnext (p.2.1 i) p.2.2.1 p.2.2.2.2 s
def sbef (W : xW) (row : List Nat) : Nat := row.foldl (fun s i => pnx W.2.2.2.1 s i) (pfst W.2.2.2.1)
theorem sbef_snoc (W : xW) (row : List Nat) (p : Nat) : sbef W (row ++ [p]) = pnx W.2.2.2.1 (sbef W row) p := by simp [sbef]
def brk (W : xW) (row : List Nat) : Nat → Nat → Nat → Nat
  | 0, b, _ => b
  | p + 1, b, s => brk W row p (b ||| rbroken W.2.1 W.1 W.2.2.1 (row.getD p 0) (sbef W (row.take p)) s) (pnx W.2.2.2.2 s (row.getD p 0))
def brkn (W : xW) (row : List Nat) : Nat := brk W row row.length 0 (pfst W.2.2.2.2)
theorem brk_lt {W : xW} {row : List Nat} (h : W.2.1.length ≤ 4) : ∀ (p b s : Nat), b < 2 ^ 4 → brk W row p b s < 2 ^ 4
  | 0, b, _, hb => hb
  | p + 1, b, s, hb => brk_lt h p _ _ (Nat.or_lt_two_pow hb (rbroken_lt h))
theorem brkn_lt {W : xW} {row : List Nat} (h : W.2.1.length ≤ 4) : brkn W row < 16 := brk_lt h _ _ _ (by decide)
def fitL (W : xW) (w row : List Nat) (ld p : Nat) : Bool := if lowp W p = 0 then (row.length == 0 || lowp W (row.getD (row.length - 1) 0) != 0) else w.getD ld 0 == lowp W p
def fitU (tk : Nat → Nat → Bool) (W : xW) (ud p : Nat) : Bool := upp W p == 0 || tk ud (upp W p)
/-- all that a search meets, in its order -/
def sExt {σ : Type} (W : xW) (w : List Nat) (tk : Nat → Nat → Bool) (me : Nat → Bool) (mt : σ → List Nat → σ) (dn : σ → Bool) : Nat → List Nat → Nat → Nat → σ → σ
  | 0, row, ld, ud, s => if ld = w.length ∧ me ud = true then mt s row else s
  | f + 1, row, ld, ud, s => (List.range W.1.length).foldl (fun s p => if dn s then s else if fitL W w row ld p && fitU tk W ud p then sExt W w tk me mt dn f (row ++ [p]) (if lowp W p = 0 then ld else ld + 1) (if upp W p = 0 then ud else ud + 1) s else s) (if ld = w.length ∧ me ud = true then mt s row else s)
def Sx (h : xH) (a x ci : Nat) (rest : List Value) (W : xW) (w row : List Nat) : Prop := h.2 a = some (.inr (ci, .ref (x + 1) :: .ref (x + 4) :: .ref (a + 1) :: .ref (a + 3) :: .ref (a + 4) :: .ref (a + 5) :: rest)) ∧ Ln h (a + 1) 4 w ∧ IA h (a + 3) 9 row.length (fun j => row.getD j 0) ∧ IA h (a + 4) 10 (row.length + 1) (fun j => sbef W (row.take j)) ∧ (∀ p ∈ row, p < W.1.length) ∧ row.length ≤ 9 ∧ ∀ i, w.getD i 0 < 8
theorem Sx.eq {h h' : xH} {a x ci : Nat} {rest : List Value} {W : xW} {w row : List Nat} (H : Sx h a x ci rest W w row) (e : ∀ q : Nat, a ≤ q → q < a + 5 → h'.2 q = h.2 q) : Sx h' a x ci rest W w row := by
  obtain ⟨h1, h2, h3, h4, h5⟩ := H
  exact ⟨(e _ (by omega) (by omega)).trans h1, h2.eq (e _ (by omega) (by omega)) (e _ (by omega) (by omega)), h3.at (e _ (by omega) (by omega)), h4.at (e _ (by omega) (by omega)), h5⟩
theorem Ev.b {h : xH} {x : Nat} {W : xW} (H : Ev h x W) : W.1.length ≤ 10 ∧ (∀ p, lowp W p < 8 ∧ upp W p < 8) ∧ W.2.1.length ≤ 4 := by
  obtain ⟨⟨f, g, -, -, -, h4, -, -, h7⟩, ⟨-, -, -, -, -, -, -, h8, -⟩, -⟩ := H
  refine ⟨h4, fun p => ?_, h8⟩
  unfold lowp upp
  by_cases hp : p < W.1.length
  · exact h7 _ (getD_mem hp)
  · rw [getD_len (by omega)]; exact ⟨by decide, by decide⟩
theorem Ev.o1 {h : xH} {x : Nat} {W : xW} (H : Ev h x W) : h.2 (x + 1) = some (cPairs (x + 1) W.1.length) := by
  obtain ⟨⟨f, g, h1, -⟩, -⟩ := H
  exact h1
theorem Ev.o2 {h : xH} {x : Nat} {W : xW} (H : Ev h x W) : h.2 (x + 4) = some (cRule (x + 4) W.2.1.length) := H.2.1.1
theorem PtA.o {h : xH} {a : Nat} {fl : Bool} {p : xPt} (H : PtA h a fl p) : h.2 a = some (cPatt a fl p.2.2.1 p.2.2.2.1 p.2.2.2.2) := by
  obtain ⟨f, g, h1, -⟩ := H
  exact h1
section SEARCH
variable {l : Launch} {G : xG} {d : Nat} {h : xH} {a x : Nat} {W : xW} {w row : List Nat} {rest : List Value}
theorem c_upperAt_Comp {i : Nat} (hi : i < row.length) (HE : Ev h x W) (H : Sx h a x 6 rest W w row) : xMet l G mSear_upperAt (d + 1) 0 0 [.ref a, .int (nI i)] h (fun o h' => o = .inl (some (.int (nI (upp W (row.getD i 0))))) ∧ h' = h) := by
  have o1 := HE.o1
  obtain ⟨h1, h2, ⟨f3, h3, e3⟩, ⟨f4, h4, e4⟩, h5, h6, h7⟩ := H
  refine xMet_of (L := [_, _]) (by decide) (Nat.le_of_ble_eq_true rfl) rfl ?_
  refine ex_aload_n dSear_upperAt_0 rfl ?_
  refine ex_get dSear_upperAt_1 fg_Sear_27_Comp h1 rfl ?_
  refine ex_aload_n dSear_upperAt_4 rfl ?_
  refine ex_get dSear_upperAt_5 fg_Sear_20_Comp h1 rfl ?_
  refine ex_iload_n dSear_upperAt_8 rfl ?_
  refine ex_iaload dSear_upperAt_9 h3 rfl (by omega) (by omega) ?_
  rw [e3 i hi]
  refine ex_v1 dSear_upperAt_10 iv_Sear_54 cd_Pairs_upperOf ar_Pairs_upperOf o1 (c_Pairs_upperOf (d := d) (i := row.getD i 0) (h5 _ (getD_mem hi)) HE.1) (by dsimp only; omega) (Nat.le_of_ble_eq_true rfl) (Nat.le_refl _) (Nat.le_refl _) (fun E h9 q9 => by simp at q9) (fun v9 hp9 hq => ?_)
  obtain ⟨e, e1⟩ := hq
  cases e
  exact ex_iret dSear_upperAt_13 rfl (Nat.le_refl _) (Nat.le_refl _) ⟨rfl, e1⟩
theorem c_fitsLower_Comp {ld p : Nat} (hl : ld < 100) (hp : p < W.1.length) (HE : Ev h x W) (H : Sx h a x 6 rest W w row) : xMet l G mSear_fitsLower (d + 1) 0 0 [.ref a, .int (nI p), .int (nI row.length), .int (nI ld)] h (fun o h' => o = .inl (some (.int (bI (fitL W w row ld p)))) ∧ h' = h) := by
  have o1 := HE.o1
  have hb := HE.b
  have hbp := (hb.2.1 p).1
  obtain ⟨h1, h2, ⟨f3, h3, e3⟩, ⟨f4, h4, e4⟩, h5, h6, h7⟩ := H
  have L1 := h2
  obtain ⟨fl, l1, l2, l3, l4, l5⟩ := L1
  have no1 : ∀ y, fitL W w row ld p = false → Ex (l, G, d + 1, 0, 0, h, fun o h' => o = .inl (some (.int (bI (fitL W w row ld p)))) ∧ h' = h) mSear_fitsLower 41 [some (.ref a), some (.int (nI p)), some (.int (nI row.length)), some (.int (nI ld)), y] [] h 0 0 := by
    intro y e
    refine ex_iconst (v := nI 0) dSear_fitsLower_41 (by decide) ?_
    exact ex_zret dSear_fitsLower_42 rfl (by decide) (Nat.le_refl _) (Nat.le_refl _) ⟨by rw [e]; rfl, rfl⟩
  have yes1 : ∀ y, fitL W w row ld p = true → Ex (l, G, d + 1, 0, 0, h, fun o h' => o = .inl (some (.int (bI (fitL W w row ld p)))) ∧ h' = h) mSear_fitsLower 37 [some (.ref a), some (.int (nI p)), some (.int (nI row.length)), some (.int (nI ld)), y] [] h 0 0 := by
    intro y e
    refine ex_iconst (v := nI 1) dSear_fitsLower_37 (by decide) ?_
    refine ex_goto (tgt := 42) dSear_fitsLower_38 (by decide) ?_
    exact ex_zret dSear_fitsLower_42 rfl (by decide) (Nat.le_refl _) (Nat.le_refl _) ⟨by rw [e]; rfl, rfl⟩
  refine xMet_of (L := [_, _, _, _, _]) (by decide) (Nat.le_of_ble_eq_true rfl) rfl ?_
  refine ex_aload_n dSear_fitsLower_0 rfl ?_
  refine ex_get dSear_fitsLower_1 fg_Sear_27_Comp h1 rfl ?_
  refine ex_iload_n dSear_fitsLower_4 rfl ?_
  refine ex_v1 dSear_fitsLower_5 iv_Sear_97 cd_Pairs_lowerOf ar_Pairs_lowerOf o1 (c_Pairs_lowerOf (d := d) (i := p) hp HE.1) (by dsimp only; omega) (Nat.le_of_ble_eq_true rfl) (Nat.le_refl _) (Nat.le_refl _) (fun E h9 q9 => by simp at q9) (fun v9 hp9 hq => ?_)
  obtain ⟨e, e1⟩ := hq
  cases e
  rw [e1]
  refine ex_istore (L' := [_, _, _, _, _]) dSear_fitsLower_8 (by decide) rfl ?_
  refine ex_iload dSear_fitsLower_10 rfl ?_
  refine ex_if_ne (tgt := 43) dSear_fitsLower_12 (by decide) (fun hc => ?_) (fun hc => ?_)
  · have hne : ¬ lowp W p = 0 := fun q => hc (by rw [show (W.1.getD p (0, 0)).1 = 0 from q]; rfl)
    refine ex_aload_n dSear_fitsLower_43 rfl ?_
    refine ex_get dSear_fitsLower_44 fg_Sear_14_Comp h1 rfl ?_
    refine ex_iload_n dSear_fitsLower_47 rfl ?_
    refine ex_v1 dSear_fitsLower_48 iv_Sear_100 cd_Line_signAt ar_Line_signAt l1 (c_Line_signAt (d := d) (i := ld) (by omega) h2) (by dsimp only; omega) (Nat.le_of_ble_eq_true rfl) (Nat.le_refl _) (Nat.le_refl _) (fun E h9 q9 => by simp at q9) (fun v8 hp8 hq => ?_)
    obtain ⟨e, e1⟩ := hq
    cases e
    rw [e1]
    refine ex_iload dSear_fitsLower_51 rfl ?_
    have hw8 : ∀ q : Bool, (w.getD ld 0 == lowp W p) = q → fitL W w row ld p = q := fun q e => by unfold fitL; rw [if_neg hne]; exact e
    refine ex_icmp_ne (tgt := 60) dSear_fitsLower_53 (by decide) (fun hc2 => ?_) (fun hc2 => ?_)
    · refine ex_iconst (v := nI 0) dSear_fitsLower_60 (by decide) ?_
      exact ex_zret dSear_fitsLower_61 rfl (by decide) (Nat.le_refl _) (Nat.le_refl _) ⟨by rw [hw8 false (by simpa using fun q : w.getD ld 0 = lowp W p => hc2 (by rw [q]; rfl))]; rfl, rfl⟩
    · refine ex_iconst (v := nI 1) dSear_fitsLower_56 (by decide) ?_
      refine ex_goto (tgt := 61) dSear_fitsLower_57 (by decide) ?_
      exact ex_zret dSear_fitsLower_61 rfl (by decide) (Nat.le_refl _) (Nat.le_refl _) ⟨by rw [hw8 true (by simpa using (nI_eq (b := lowp W p) (by have := h7 ld; omega) (by omega)).mp hc2)]; rfl, rfl⟩
  have he : lowp W p = 0 := (nI_eq (b := 0) (by have := hbp; unfold lowp at this; omega) (by omega)).mp hc
  refine ex_iload_n dSear_fitsLower_15 rfl ?_
  refine ex_if_eq (tgt := 37) dSear_fitsLower_16 (by decide) (fun hc2 => ?_) (fun hc2 => ?_)
  · have hz : row.length = 0 := (nI_eq (b := 0) (by omega) (by omega)).mp hc2
    exact yes1 _ (by unfold fitL; rw [if_pos he, hz]; rfl)
  have hz : 0 < row.length := by
    rcases Nat.eq_zero_or_pos row.length with q | q
    · exact absurd (by rw [q]; rfl) hc2
    · exact q
  refine ex_aload_n dSear_fitsLower_19 rfl ?_
  refine ex_get dSear_fitsLower_20 fg_Sear_27_Comp h1 rfl ?_
  refine ex_aload_n dSear_fitsLower_23 rfl ?_
  refine ex_get dSear_fitsLower_24 fg_Sear_20_Comp h1 rfl ?_
  refine ex_iload_n dSear_fitsLower_27 rfl ?_
  refine ex_iconst (v := nI 1) dSear_fitsLower_28 (by decide) ?_
  refine ex_isub dSear_fitsLower_29 ?_
  rw [show nI row.length - nI 1 = nI (row.length - 1) from pk_sub (by omega)]
  refine ex_iaload dSear_fitsLower_30 h3 rfl (by omega) (by omega) ?_
  rw [e3 (row.length - 1) (by omega)]
  refine ex_v1 dSear_fitsLower_31 iv_Sear_97 cd_Pairs_lowerOf ar_Pairs_lowerOf o1 (c_Pairs_lowerOf (d := d) (i := row.getD (row.length - 1) 0) (h5 _ (getD_mem (by omega))) HE.1) (by dsimp only; omega) (Nat.le_of_ble_eq_true rfl) (Nat.le_refl _) (Nat.le_refl _) (fun E h9 q9 => by simp at q9) (fun v8 hp8 hq => ?_)
  obtain ⟨e, e1⟩ := hq
  cases e
  rw [e1]
  have hb8 := (hb.2.1 (row.getD (row.length - 1) 0)).1
  refine ex_if_eq (tgt := 41) dSear_fitsLower_34 (by decide) (fun hc3 => ?_) (fun hc3 => ?_)
  · refine no1 _ ?_
    have q : lowp W (row.getD (row.length - 1) 0) = 0 := (nI_eq (b := 0) (by omega) (by omega)).mp hc3
    unfold fitL
    rw [if_pos he, q, show (row.length == 0) = false from by rw [beq_eq_false_iff_ne]; omega]
    rfl
  · refine yes1 _ ?_
    have q : ¬ lowp W (row.getD (row.length - 1) 0) = 0 := fun q => hc3 (by rw [show (W.1.getD (row.getD (row.length - 1) 0) (0, 0)).1 = 0 from q]; rfl)
    unfold fitL
    rw [if_pos he]
    simp only [bne_iff_ne, ne_eq, Bool.or_eq_true]
    exact Or.inr q
theorem c_brokenRules_Comp (HE : Ev h x W) (H : Sx h a x 6 rest W w row) : xMet l G mSear_brokenRules (d + 2) 0 0 [.ref a, .int (nI row.length)] h (fun o h' => o = .inl (some (.int (nI (brkn W row)))) ∧ h' = h) := by
  have o2 := HE.o2
  have hb := HE.b
  have o3 := HE.2.2.2.2.o
  obtain ⟨h1, h2, ⟨f3, h3, e3⟩, ⟨f4, h4, e4⟩, h5, h6, h7⟩ := H
  have loop : ∀ p b s : Nat, p ≤ row.length → brk W row p b s = brkn W row → Ex (l, G, d + 2, 0, 0, h, fun o h' => o = .inl (some (.int (nI (brkn W row)))) ∧ h' = h) mSear_brokenRules 18 [some (.ref a), some (.int (nI row.length)), some (.int (nI b)), some (.int (nI s)), some (.int (nI p - nI 1))] [] h 0 0 := by
    intro p
    induction p with
    | zero =>
      intro b s hp hb9
      refine ex_iload dSear_brokenRules_18 rfl ?_
      refine ex_if_lt (tgt := 73) dSear_brokenRules_20 (by decide) (fun hc => ?_) (fun hc => ?_)
      · refine ex_iload_n dSear_brokenRules_73 rfl ?_
        exact ex_iret dSear_brokenRules_74 rfl (Nat.le_refl _) (Nat.le_refl _) ⟨by rw [← hb9]; rfl, rfl⟩
      · exact absurd (by decide) hc
    | succ p ih =>
      intro b s hp hb9
      rw [show nI (p + 1) - nI 1 = nI p from pk_sub (a := p + 1) (b := 1) (by omega)]
      have hpr := h5 _ (getD_mem (d := 0) (show p < row.length by omega))
      refine ex_iload dSear_brokenRules_18 rfl ?_
      refine ex_if_lt (tgt := 73) dSear_brokenRules_20 (by decide) (fun hc => ?_) (fun hc => ?_)
      · exact absurd hc (nI_pos (by omega))
      refine ex_iload_n dSear_brokenRules_23 rfl ?_
      refine ex_aload_n dSear_brokenRules_24 rfl ?_
      refine ex_get dSear_brokenRules_25 fg_Sear_31_Comp h1 rfl ?_
      refine ex_aload_n dSear_brokenRules_28 rfl ?_
      refine ex_get dSear_brokenRules_29 fg_Sear_20_Comp h1 rfl ?_
      refine ex_iload dSear_brokenRules_32 rfl ?_
      refine ex_iaload dSear_brokenRules_34 h3 rfl (by omega) (by omega) ?_
      refine ex_aload_n dSear_brokenRules_35 rfl ?_
      refine ex_get dSear_brokenRules_36 fg_Sear_24_Comp h1 rfl ?_
      refine ex_iload dSear_brokenRules_39 rfl ?_
      refine ex_iaload dSear_brokenRules_41 h4 rfl (by omega) (by omega) ?_
      refine ex_iload_n dSear_brokenRules_42 rfl ?_
      rw [e3 p (by omega), e4 p (by omega)]
      refine ex_v3 dSear_brokenRules_43 iv_Sear_109 cd_Rule_brokenBy ar_Rule_brokenBy o2 (c_Rule_brokenBy (d := d) (p := row.getD p 0) (sb := sbef W (row.take p)) (sh := s) hpr hb.1 HE.2.1 HE.2.2.1) (by dsimp only; omega) (Nat.le_of_ble_eq_true rfl) (Nat.le_refl _) (Nat.le_refl _) (fun E h9 q9 => by simp at q9) (fun v9 hp9 hq => ?_)
      obtain ⟨e, e1⟩ := hq
      cases e
      rw [e1]
      refine ex_ior dSear_brokenRules_46 ?_
      rw [nb_or]
      refine ex_istore_n (L' := [_, _, _, _, _]) dSear_brokenRules_47 (by decide) rfl ?_
      refine ex_aload_n dSear_brokenRules_48 rfl ?_
      refine ex_get dSear_brokenRules_49 fg_Sear_31_Comp h1 rfl ?_
      refine ex_get dSear_brokenRules_52 fg_Sear_106 o2 rfl ?_
      refine ex_iload_n dSear_brokenRules_55 rfl ?_
      refine ex_aload_n dSear_brokenRules_56 rfl ?_
      refine ex_get dSear_brokenRules_57 fg_Sear_20_Comp h1 rfl ?_
      refine ex_iload dSear_brokenRules_60 rfl ?_
      refine ex_iaload dSear_brokenRules_62 h3 rfl (by omega) (by omega) ?_
      rw [e3 p (by omega)]
      refine ex_v2 dSear_brokenRules_63 iv_Sear_93 cd_Patt_next ar_Patt_next o3 (c_Patt_next (d := d) (s := s) (i := row.getD p 0) (by omega) HE.2.2.2.2) (by dsimp only; omega) (Nat.le_of_ble_eq_true rfl) (Nat.le_refl _) (Nat.le_refl _) (fun E h9 q9 => by simp at q9) (fun v8 hp8 hq => ?_)
      obtain ⟨e, e1⟩ := hq
      cases e
      rw [e1]
      refine ex_istore_n (L' := [_, _, _, _, _]) dSear_brokenRules_66 (by decide) rfl ?_
      refine ex_iinc (L' := [_, _, _, _, _]) dSear_brokenRules_67 rfl rfl (by decide) rfl ?_
      refine ex_goto (tgt := 18) dSear_brokenRules_70 (by decide) ?_
      rw [show nI p + Int32.ofInt (-1) = nI p - nI 1 from by rw [show Int32.ofInt (-1) = -nI 1 from by decide, ← Int32.sub_eq_add_neg]]
      exact ih _ _ (by omega) hb9
  refine xMet_of (L := [_, _, _, _, _]) (by decide) (Nat.le_of_ble_eq_true rfl) rfl ?_
  refine ex_iconst (v := nI 0) dSear_brokenRules_0 (by decide) ?_
  refine ex_istore_n (L' := [_, _, _, _, _]) dSear_brokenRules_1 (by decide) rfl ?_
  refine ex_aload_n dSear_brokenRules_2 rfl ?_
  refine ex_get dSear_brokenRules_3 fg_Sear_31_Comp h1 rfl ?_
  refine ex_get dSear_brokenRules_6 fg_Sear_106 o2 rfl ?_
  refine ex_v0 dSear_brokenRules_9 iv_Sear_44 cd_Patt_first ar_Patt_first o3 (c_Patt_first (d := d) HE.2.2.2.2) (by dsimp only; omega) (Nat.le_of_ble_eq_true rfl) (Nat.le_refl _) (Nat.le_refl _) (fun E h9 q9 => by simp at q9) (fun v9 hp9 hq => ?_)
  obtain ⟨e, e1⟩ := hq
  cases e
  rw [e1]
  refine ex_istore_n (L' := [_, _, _, _, _]) dSear_brokenRules_12 (by decide) rfl ?_
  refine ex_iload_n dSear_brokenRules_13 rfl ?_
  refine ex_iconst (v := nI 1) dSear_brokenRules_14 (by decide) ?_
  refine ex_isub dSear_brokenRules_15 ?_
  refine ex_istore (L' := [_, _, _, _, _]) dSear_brokenRules_16 (by decide) rfl ?_
  exact loop row.length _ _ (Nat.le_refl _) rfl
theorem c_upperAt_Writ {i : Nat} (hi : i < row.length) (HE : Ev h x W) (H : Sx h a x 7 rest W w row) : xMet l G mSear_upperAt (d + 1) 0 0 [.ref a, .int (nI i)] h (fun o h' => o = .inl (some (.int (nI (upp W (row.getD i 0))))) ∧ h' = h) := by
  have o1 := HE.o1
  obtain ⟨h1, h2, ⟨f3, h3, e3⟩, ⟨f4, h4, e4⟩, h5, h6, h7⟩ := H
  refine xMet_of (L := [_, _]) (by decide) (Nat.le_of_ble_eq_true rfl) rfl ?_
  refine ex_aload_n dSear_upperAt_0 rfl ?_
  refine ex_get dSear_upperAt_1 fg_Sear_27_Writ h1 rfl ?_
  refine ex_aload_n dSear_upperAt_4 rfl ?_
  refine ex_get dSear_upperAt_5 fg_Sear_20_Writ h1 rfl ?_
  refine ex_iload_n dSear_upperAt_8 rfl ?_
  refine ex_iaload dSear_upperAt_9 h3 rfl (by omega) (by omega) ?_
  rw [e3 i hi]
  refine ex_v1 dSear_upperAt_10 iv_Sear_54 cd_Pairs_upperOf ar_Pairs_upperOf o1 (c_Pairs_upperOf (d := d) (i := row.getD i 0) (h5 _ (getD_mem hi)) HE.1) (by dsimp only; omega) (Nat.le_of_ble_eq_true rfl) (Nat.le_refl _) (Nat.le_refl _) (fun E h9 q9 => by simp at q9) (fun v9 hp9 hq => ?_)
  obtain ⟨e, e1⟩ := hq
  cases e
  exact ex_iret dSear_upperAt_13 rfl (Nat.le_refl _) (Nat.le_refl _) ⟨rfl, e1⟩
theorem c_fitsLower_Writ {ld p : Nat} (hl : ld < 100) (hp : p < W.1.length) (HE : Ev h x W) (H : Sx h a x 7 rest W w row) : xMet l G mSear_fitsLower (d + 1) 0 0 [.ref a, .int (nI p), .int (nI row.length), .int (nI ld)] h (fun o h' => o = .inl (some (.int (bI (fitL W w row ld p)))) ∧ h' = h) := by
  have o1 := HE.o1
  have hb := HE.b
  have hbp := (hb.2.1 p).1
  obtain ⟨h1, h2, ⟨f3, h3, e3⟩, ⟨f4, h4, e4⟩, h5, h6, h7⟩ := H
  have L1 := h2
  obtain ⟨fl, l1, l2, l3, l4, l5⟩ := L1
  have no1 : ∀ y, fitL W w row ld p = false → Ex (l, G, d + 1, 0, 0, h, fun o h' => o = .inl (some (.int (bI (fitL W w row ld p)))) ∧ h' = h) mSear_fitsLower 41 [some (.ref a), some (.int (nI p)), some (.int (nI row.length)), some (.int (nI ld)), y] [] h 0 0 := by
    intro y e
    refine ex_iconst (v := nI 0) dSear_fitsLower_41 (by decide) ?_
    exact ex_zret dSear_fitsLower_42 rfl (by decide) (Nat.le_refl _) (Nat.le_refl _) ⟨by rw [e]; rfl, rfl⟩
  have yes1 : ∀ y, fitL W w row ld p = true → Ex (l, G, d + 1, 0, 0, h, fun o h' => o = .inl (some (.int (bI (fitL W w row ld p)))) ∧ h' = h) mSear_fitsLower 37 [some (.ref a), some (.int (nI p)), some (.int (nI row.length)), some (.int (nI ld)), y] [] h 0 0 := by
    intro y e
    refine ex_iconst (v := nI 1) dSear_fitsLower_37 (by decide) ?_
    refine ex_goto (tgt := 42) dSear_fitsLower_38 (by decide) ?_
    exact ex_zret dSear_fitsLower_42 rfl (by decide) (Nat.le_refl _) (Nat.le_refl _) ⟨by rw [e]; rfl, rfl⟩
  refine xMet_of (L := [_, _, _, _, _]) (by decide) (Nat.le_of_ble_eq_true rfl) rfl ?_
  refine ex_aload_n dSear_fitsLower_0 rfl ?_
  refine ex_get dSear_fitsLower_1 fg_Sear_27_Writ h1 rfl ?_
  refine ex_iload_n dSear_fitsLower_4 rfl ?_
  refine ex_v1 dSear_fitsLower_5 iv_Sear_97 cd_Pairs_lowerOf ar_Pairs_lowerOf o1 (c_Pairs_lowerOf (d := d) (i := p) hp HE.1) (by dsimp only; omega) (Nat.le_of_ble_eq_true rfl) (Nat.le_refl _) (Nat.le_refl _) (fun E h9 q9 => by simp at q9) (fun v9 hp9 hq => ?_)
  obtain ⟨e, e1⟩ := hq
  cases e
  rw [e1]
  refine ex_istore (L' := [_, _, _, _, _]) dSear_fitsLower_8 (by decide) rfl ?_
  refine ex_iload dSear_fitsLower_10 rfl ?_
  refine ex_if_ne (tgt := 43) dSear_fitsLower_12 (by decide) (fun hc => ?_) (fun hc => ?_)
  · have hne : ¬ lowp W p = 0 := fun q => hc (by rw [show (W.1.getD p (0, 0)).1 = 0 from q]; rfl)
    refine ex_aload_n dSear_fitsLower_43 rfl ?_
    refine ex_get dSear_fitsLower_44 fg_Sear_14_Writ h1 rfl ?_
    refine ex_iload_n dSear_fitsLower_47 rfl ?_
    refine ex_v1 dSear_fitsLower_48 iv_Sear_100 cd_Line_signAt ar_Line_signAt l1 (c_Line_signAt (d := d) (i := ld) (by omega) h2) (by dsimp only; omega) (Nat.le_of_ble_eq_true rfl) (Nat.le_refl _) (Nat.le_refl _) (fun E h9 q9 => by simp at q9) (fun v8 hp8 hq => ?_)
    obtain ⟨e, e1⟩ := hq
    cases e
    rw [e1]
    refine ex_iload dSear_fitsLower_51 rfl ?_
    have hw8 : ∀ q : Bool, (w.getD ld 0 == lowp W p) = q → fitL W w row ld p = q := fun q e => by unfold fitL; rw [if_neg hne]; exact e
    refine ex_icmp_ne (tgt := 60) dSear_fitsLower_53 (by decide) (fun hc2 => ?_) (fun hc2 => ?_)
    · refine ex_iconst (v := nI 0) dSear_fitsLower_60 (by decide) ?_
      exact ex_zret dSear_fitsLower_61 rfl (by decide) (Nat.le_refl _) (Nat.le_refl _) ⟨by rw [hw8 false (by simpa using fun q : w.getD ld 0 = lowp W p => hc2 (by rw [q]; rfl))]; rfl, rfl⟩
    · refine ex_iconst (v := nI 1) dSear_fitsLower_56 (by decide) ?_
      refine ex_goto (tgt := 61) dSear_fitsLower_57 (by decide) ?_
      exact ex_zret dSear_fitsLower_61 rfl (by decide) (Nat.le_refl _) (Nat.le_refl _) ⟨by rw [hw8 true (by simpa using (nI_eq (b := lowp W p) (by have := h7 ld; omega) (by omega)).mp hc2)]; rfl, rfl⟩
  have he : lowp W p = 0 := (nI_eq (b := 0) (by have := hbp; unfold lowp at this; omega) (by omega)).mp hc
  refine ex_iload_n dSear_fitsLower_15 rfl ?_
  refine ex_if_eq (tgt := 37) dSear_fitsLower_16 (by decide) (fun hc2 => ?_) (fun hc2 => ?_)
  · have hz : row.length = 0 := (nI_eq (b := 0) (by omega) (by omega)).mp hc2
    exact yes1 _ (by unfold fitL; rw [if_pos he, hz]; rfl)
  have hz : 0 < row.length := by
    rcases Nat.eq_zero_or_pos row.length with q | q
    · exact absurd (by rw [q]; rfl) hc2
    · exact q
  refine ex_aload_n dSear_fitsLower_19 rfl ?_
  refine ex_get dSear_fitsLower_20 fg_Sear_27_Writ h1 rfl ?_
  refine ex_aload_n dSear_fitsLower_23 rfl ?_
  refine ex_get dSear_fitsLower_24 fg_Sear_20_Writ h1 rfl ?_
  refine ex_iload_n dSear_fitsLower_27 rfl ?_
  refine ex_iconst (v := nI 1) dSear_fitsLower_28 (by decide) ?_
  refine ex_isub dSear_fitsLower_29 ?_
  rw [show nI row.length - nI 1 = nI (row.length - 1) from pk_sub (by omega)]
  refine ex_iaload dSear_fitsLower_30 h3 rfl (by omega) (by omega) ?_
  rw [e3 (row.length - 1) (by omega)]
  refine ex_v1 dSear_fitsLower_31 iv_Sear_97 cd_Pairs_lowerOf ar_Pairs_lowerOf o1 (c_Pairs_lowerOf (d := d) (i := row.getD (row.length - 1) 0) (h5 _ (getD_mem (by omega))) HE.1) (by dsimp only; omega) (Nat.le_of_ble_eq_true rfl) (Nat.le_refl _) (Nat.le_refl _) (fun E h9 q9 => by simp at q9) (fun v8 hp8 hq => ?_)
  obtain ⟨e, e1⟩ := hq
  cases e
  rw [e1]
  have hb8 := (hb.2.1 (row.getD (row.length - 1) 0)).1
  refine ex_if_eq (tgt := 41) dSear_fitsLower_34 (by decide) (fun hc3 => ?_) (fun hc3 => ?_)
  · refine no1 _ ?_
    have q : lowp W (row.getD (row.length - 1) 0) = 0 := (nI_eq (b := 0) (by omega) (by omega)).mp hc3
    unfold fitL
    rw [if_pos he, q, show (row.length == 0) = false from by rw [beq_eq_false_iff_ne]; omega]
    rfl
  · refine yes1 _ ?_
    have q : ¬ lowp W (row.getD (row.length - 1) 0) = 0 := fun q => hc3 (by rw [show (W.1.getD (row.getD (row.length - 1) 0) (0, 0)).1 = 0 from q]; rfl)
    unfold fitL
    rw [if_pos he]
    simp only [bne_iff_ne, ne_eq, Bool.or_eq_true]
    exact Or.inr q
theorem c_brokenRules_Writ (HE : Ev h x W) (H : Sx h a x 7 rest W w row) : xMet l G mSear_brokenRules (d + 2) 0 0 [.ref a, .int (nI row.length)] h (fun o h' => o = .inl (some (.int (nI (brkn W row)))) ∧ h' = h) := by
  have o2 := HE.o2
  have hb := HE.b
  have o3 := HE.2.2.2.2.o
  obtain ⟨h1, h2, ⟨f3, h3, e3⟩, ⟨f4, h4, e4⟩, h5, h6, h7⟩ := H
  have loop : ∀ p b s : Nat, p ≤ row.length → brk W row p b s = brkn W row → Ex (l, G, d + 2, 0, 0, h, fun o h' => o = .inl (some (.int (nI (brkn W row)))) ∧ h' = h) mSear_brokenRules 18 [some (.ref a), some (.int (nI row.length)), some (.int (nI b)), some (.int (nI s)), some (.int (nI p - nI 1))] [] h 0 0 := by
    intro p
    induction p with
    | zero =>
      intro b s hp hb9
      refine ex_iload dSear_brokenRules_18 rfl ?_
      refine ex_if_lt (tgt := 73) dSear_brokenRules_20 (by decide) (fun hc => ?_) (fun hc => ?_)
      · refine ex_iload_n dSear_brokenRules_73 rfl ?_
        exact ex_iret dSear_brokenRules_74 rfl (Nat.le_refl _) (Nat.le_refl _) ⟨by rw [← hb9]; rfl, rfl⟩
      · exact absurd (by decide) hc
    | succ p ih =>
      intro b s hp hb9
      rw [show nI (p + 1) - nI 1 = nI p from pk_sub (a := p + 1) (b := 1) (by omega)]
      have hpr := h5 _ (getD_mem (d := 0) (show p < row.length by omega))
      refine ex_iload dSear_brokenRules_18 rfl ?_
      refine ex_if_lt (tgt := 73) dSear_brokenRules_20 (by decide) (fun hc => ?_) (fun hc => ?_)
      · exact absurd hc (nI_pos (by omega))
      refine ex_iload_n dSear_brokenRules_23 rfl ?_
      refine ex_aload_n dSear_brokenRules_24 rfl ?_
      refine ex_get dSear_brokenRules_25 fg_Sear_31_Writ h1 rfl ?_
      refine ex_aload_n dSear_brokenRules_28 rfl ?_
      refine ex_get dSear_brokenRules_29 fg_Sear_20_Writ h1 rfl ?_
      refine ex_iload dSear_brokenRules_32 rfl ?_
      refine ex_iaload dSear_brokenRules_34 h3 rfl (by omega) (by omega) ?_
      refine ex_aload_n dSear_brokenRules_35 rfl ?_
      refine ex_get dSear_brokenRules_36 fg_Sear_24_Writ h1 rfl ?_
      refine ex_iload dSear_brokenRules_39 rfl ?_
      refine ex_iaload dSear_brokenRules_41 h4 rfl (by omega) (by omega) ?_
      refine ex_iload_n dSear_brokenRules_42 rfl ?_
      rw [e3 p (by omega), e4 p (by omega)]
      refine ex_v3 dSear_brokenRules_43 iv_Sear_109 cd_Rule_brokenBy ar_Rule_brokenBy o2 (c_Rule_brokenBy (d := d) (p := row.getD p 0) (sb := sbef W (row.take p)) (sh := s) hpr hb.1 HE.2.1 HE.2.2.1) (by dsimp only; omega) (Nat.le_of_ble_eq_true rfl) (Nat.le_refl _) (Nat.le_refl _) (fun E h9 q9 => by simp at q9) (fun v9 hp9 hq => ?_)
      obtain ⟨e, e1⟩ := hq
      cases e
      rw [e1]
      refine ex_ior dSear_brokenRules_46 ?_
      rw [nb_or]
      refine ex_istore_n (L' := [_, _, _, _, _]) dSear_brokenRules_47 (by decide) rfl ?_
      refine ex_aload_n dSear_brokenRules_48 rfl ?_
      refine ex_get dSear_brokenRules_49 fg_Sear_31_Writ h1 rfl ?_
      refine ex_get dSear_brokenRules_52 fg_Sear_106 o2 rfl ?_
      refine ex_iload_n dSear_brokenRules_55 rfl ?_
      refine ex_aload_n dSear_brokenRules_56 rfl ?_
      refine ex_get dSear_brokenRules_57 fg_Sear_20_Writ h1 rfl ?_
      refine ex_iload dSear_brokenRules_60 rfl ?_
      refine ex_iaload dSear_brokenRules_62 h3 rfl (by omega) (by omega) ?_
      rw [e3 p (by omega)]
      refine ex_v2 dSear_brokenRules_63 iv_Sear_93 cd_Patt_next ar_Patt_next o3 (c_Patt_next (d := d) (s := s) (i := row.getD p 0) (by omega) HE.2.2.2.2) (by dsimp only; omega) (Nat.le_of_ble_eq_true rfl) (Nat.le_refl _) (Nat.le_refl _) (fun E h9 q9 => by simp at q9) (fun v8 hp8 hq => ?_)
      obtain ⟨e, e1⟩ := hq
      cases e
      rw [e1]
      refine ex_istore_n (L' := [_, _, _, _, _]) dSear_brokenRules_66 (by decide) rfl ?_
      refine ex_iinc (L' := [_, _, _, _, _]) dSear_brokenRules_67 rfl rfl (by decide) rfl ?_
      refine ex_goto (tgt := 18) dSear_brokenRules_70 (by decide) ?_
      rw [show nI p + Int32.ofInt (-1) = nI p - nI 1 from by rw [show Int32.ofInt (-1) = -nI 1 from by decide, ← Int32.sub_eq_add_neg]]
      exact ih _ _ (by omega) hb9
  refine xMet_of (L := [_, _, _, _, _]) (by decide) (Nat.le_of_ble_eq_true rfl) rfl ?_
  refine ex_iconst (v := nI 0) dSear_brokenRules_0 (by decide) ?_
  refine ex_istore_n (L' := [_, _, _, _, _]) dSear_brokenRules_1 (by decide) rfl ?_
  refine ex_aload_n dSear_brokenRules_2 rfl ?_
  refine ex_get dSear_brokenRules_3 fg_Sear_31_Writ h1 rfl ?_
  refine ex_get dSear_brokenRules_6 fg_Sear_106 o2 rfl ?_
  refine ex_v0 dSear_brokenRules_9 iv_Sear_44 cd_Patt_first ar_Patt_first o3 (c_Patt_first (d := d) HE.2.2.2.2) (by dsimp only; omega) (Nat.le_of_ble_eq_true rfl) (Nat.le_refl _) (Nat.le_refl _) (fun E h9 q9 => by simp at q9) (fun v9 hp9 hq => ?_)
  obtain ⟨e, e1⟩ := hq
  cases e
  rw [e1]
  refine ex_istore_n (L' := [_, _, _, _, _]) dSear_brokenRules_12 (by decide) rfl ?_
  refine ex_iload_n dSear_brokenRules_13 rfl ?_
  refine ex_iconst (v := nI 1) dSear_brokenRules_14 (by decide) ?_
  refine ex_isub dSear_brokenRules_15 ?_
  refine ex_istore (L' := [_, _, _, _, _]) dSear_brokenRules_16 (by decide) rfl ?_
  exact loop row.length _ _ (Nat.le_refl _) rfl
end SEARCH
