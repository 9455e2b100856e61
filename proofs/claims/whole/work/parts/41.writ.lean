/-! Writing. -/
def upw (W : xW) (row : List Nat) : List Nat := (row.map (upp W)).filter (fun z => z != 0)
def wkey (W : xW) (row : List Nat) : Nat := rkey ((upw W row).take 5) (fun _ => 0) 0
def meetW (W : xW) (s : List Nat × Bool) (row : List Nat) : List Nat × Bool := if brkn W row = 0 then radd s (wkey W row) else s
def tkW (i _z : Nat) : Bool := decide (i < 5)
def meW (_n : Nat) : Bool := true
def dnW (s : List Nat × Bool) : Bool := s.2
def sExtW (W : xW) (w : List Nat) : Nat → List Nat → Nat → Nat → List Nat × Bool → List Nat × Bool := sExt W w tkW meW (meetW W) dnW
def Sw (h : xH) (a x g : Nat) (W : xW) (w row : List Nat) (s : List Nat × Bool) : Prop := Sx h a x 7 [.ref g] W w row ∧ (∃ u, Ln h (a + 5) 5 u) ∧ Rs h g s.1 s.2
def F2 (h h' : xH) (a g : Nat) : Prop := h'.1 = h.1 ∧ ∀ q : Nat, (q < a ∨ a + 7 ≤ q) → (q < g ∨ g + 2 ≤ q) → h'.2 q = h.2 q
theorem F2.rf {h : xH} {a g : Nat} : F2 h h a g := ⟨rfl, fun _ _ _ => rfl⟩
theorem F2.trans {h h1 h2 : xH} {a g : Nat} (p : F2 h h1 a g) (q : F2 h1 h2 a g) : F2 h h2 a g := ⟨q.1.trans p.1, fun z h1 h2 => (q.2 z h1 h2).trans (p.2 z h1 h2)⟩
theorem F2.of {h h1 : xH} {a g lo hi : Nat} (p : Sm h h1 lo hi) (hd : (a ≤ lo ∧ hi ≤ a + 7) ∨ (g ≤ lo ∧ hi ≤ g + 2)) : F2 h h1 a g := ⟨p.1, fun z h1 h2 => p.2 z (by omega)⟩
theorem F2.sm {h h1 : xH} {a g : Nat} (p : F2 h h1 a g) (hg : g + 2 ≤ a) : Sm h h1 g (a + 7) := ⟨p.1, fun z h1 => p.2 z (by omega) (by omega)⟩
theorem Sx.cut {h : xH} {a x ci : Nat} {rest : List Value} {W : xW} {w row : List Nat} {p : Nat} (H : Sx h a x ci rest W w (row ++ [p])) : Sx h a x ci rest W w row := by
  obtain ⟨h1, h2, h3, h4, h5, h6, h7⟩ := H
  refine ⟨h1, h2, h3.to (by simp) (fun j hj => ?_), h4.to (by simp) (fun j hj => ?_), fun q hq => h5 q (List.mem_append_left _ hq), by simp at h6; omega, h7⟩
  · rw [getD_snoc' (by omega)]
  · rw [List.take_append_of_le_length (by omega)]
theorem Sw.cut {h : xH} {a x g : Nat} {W : xW} {w row : List Nat} {p : Nat} {s : List Nat × Bool} (H : Sw h a x g W w (row ++ [p]) s) : Sw h a x g W w row s := ⟨H.1.cut, H.2⟩
theorem upw_lt {W : xW} {row : List Nat} (hb : ∀ p, upp W p < 8) (n i : Nat) : ((upw W row).take n).getD i 0 < 8 := by
  by_cases hi : i < ((upw W row).take n).length
  · have h1 := List.mem_of_mem_take (getD_mem (d := 0) hi)
    obtain ⟨q, -, hq⟩ := List.mem_map.mp (List.mem_filter.mp h1).1
    rw [← hq]; exact hb q
  · rw [getD_len (by omega)]; decide
theorem take_app {l : List Nat} {x n : Nat} : ((l.take n) ++ [x]).take n = (l ++ [x]).take n := by
  by_cases h : n ≤ l.length
  · rw [List.take_append_of_le_length (by simp; omega), List.take_append_of_le_length h, List.take_take, Nat.min_self]
  · rw [List.take_of_length_le (show l.length ≤ n by omega)]
section WRIT
variable {l : Launch} {G : xG} {a x g : Nat} {W : xW} {w : List Nat}
theorem c_Writ_takesUpper {d : Nat} {h : xH} {i z : Nat} (hi : i < 100) : xMet l G mWrit_takesUpper d 0 0 [.ref a, .int (nI i), .int (nI z)] h (fun o h' => o = .inl (some (.int (bI (tkW i z)))) ∧ h' = h) := by
  refine xMet_of (L := [_, _, _]) (by decide) (Nat.le_of_ble_eq_true rfl) rfl ?_
  refine ex_iload_n dWrit_takesUpper_0 rfl ?_
  refine ex_iconst (v := nI 5) dWrit_takesUpper_1 (by decide) ?_
  refine ex_icmp_ge (tgt := 9) dWrit_takesUpper_2 (by decide) (fun hc => ?_) (fun hc => ?_)
  · rw [nI_leI (by omega) (by omega)] at hc
    refine ex_iconst (v := nI 0) dWrit_takesUpper_9 (by decide) ?_
    exact ex_zret dWrit_takesUpper_10 rfl (by decide) (Nat.le_refl _) (Nat.le_refl _) ⟨by rw [show tkW i z = false from by simp [tkW]; omega]; rfl, rfl⟩
  · rw [nI_leI (by omega) (by omega)] at hc
    refine ex_iconst (v := nI 1) dWrit_takesUpper_5 (by decide) ?_
    refine ex_goto (tgt := 10) dWrit_takesUpper_6 (by decide) ?_
    exact ex_zret dWrit_takesUpper_10 rfl (by decide) (Nat.le_refl _) (Nat.le_refl _) ⟨by rw [show tkW i z = true from by simp [tkW]; omega]; rfl, rfl⟩
theorem c_Writ_mayEnd {d : Nat} {h : xH} {n : Nat} : xMet l G mWrit_mayEnd d 0 0 [.ref a, .int (nI n)] h (fun o h' => o = .inl (some (.int (bI (meW n)))) ∧ h' = h) := by
  refine xMet_of (L := [_, _]) (by decide) (Nat.le_of_ble_eq_true rfl) rfl ?_
  refine ex_iconst (v := nI 1) dWrit_mayEnd_0 (by decide) ?_
  exact ex_zret dWrit_mayEnd_1 rfl (by decide) (Nat.le_refl _) (Nat.le_refl _) ⟨rfl, rfl⟩
theorem c_Writ_isDone {d : Nat} {h : xH} {row : List Nat} {s : List Nat × Bool} (H : Sw h a x g W w row s) : xMet l G mWrit_isDone (d + 1) 0 0 [.ref a] h (fun o h' => o = .inl (some (.int (bI s.2))) ∧ h' = h) := by
  obtain ⟨⟨h1, h2, ⟨f3, h3, e3⟩, ⟨f4, h4, e4⟩, h5, h6, h7⟩, ⟨u, h8⟩, h9⟩ := H
  have R := h9
  obtain ⟨rf, r1, -⟩ := R
  refine xMet_of (L := [_]) (by decide) (Nat.le_of_ble_eq_true rfl) rfl ?_
  refine ex_aload_n dWrit_isDone_0 rfl ?_
  refine ex_get dWrit_isDone_1 fg_Writ_20 h1 rfl ?_
  refine ex_v0 dWrit_isDone_4 iv_Writ_47 cd_Resu_isTooMany ar_Resu_isTooMany r1 (c_Resu_isTooMany (d := d) h9) (by dsimp only; omega) (Nat.le_of_ble_eq_true rfl) (Nat.le_refl _) (Nat.le_refl _) (fun E h9 q9 => by simp at q9) (fun v9 hp9 hq => ?_)
  obtain ⟨e, e1⟩ := hq
  cases e
  exact ex_zret dWrit_isDone_7 rfl (bI_01 _) (Nat.le_refl _) (Nat.le_refl _) ⟨rfl, e1⟩
theorem c_Writ_meet {d : Nat} {h : xH} {row : List Nat} {s : List Nat × Bool} {n b : Nat} (hgx : x + 17 ≤ g) (hga : g + 2 ≤ a) (hn : row.length = n) (hb : b < 16) (HE : Ev h x W) (H : Sw h a x g W w row s) : xMet l G mWrit_meet (d + 3) 0 0 [.ref a, .int (nI n), .int (nI b)] h (fun o h' => o = .inl none ∧ Sw h' a x g W w row (if b = 0 then radd s (wkey W row) else s) ∧ F2 h h' a g) := by
  have H0 := H
  have hbb := HE.b
  obtain ⟨⟨h1, h2, ⟨f3, h3, e3⟩, ⟨f4, h4, e4⟩, h5, h6, h7⟩, ⟨u, h8⟩, h9⟩ := H
  have loop : ∀ (j i : Nat) (hi : xH), i + j = n → b = 0 → Sx hi a x 7 [.ref g] W w row → Ln hi (a + 5) 5 ((upw W (row.take i)).take 5) → Rs hi g s.1 s.2 → F2 h hi a g → Ex (l, G, d + 3, 0, 0, h, fun o h' => o = .inl none ∧ Sw h' a x g W w row (if b = 0 then radd s (wkey W row) else s) ∧ F2 h h' a g) mWrit_meet 15 [some (.ref a), some (.int (nI n)), some (.int (nI b)), some (.int (nI i))] [] hi 0 0 := by
    intro j
    induction j with
    | zero =>
      intro i hi hij hb0 X U R F
      have e : i = n := by omega
      subst e
      have Uc := U
      obtain ⟨fu, u1, u2, u3, -⟩ := Uc
      have Rc := R
      obtain ⟨fr, r1, -⟩ := Rc
      have hk : wkey W row < 2 ^ 62 := by
        unfold wkey rkey
        refine Nat.lt_of_lt_of_le (kcat_lt (fun i _ => by rw [if_neg (Nat.not_lt_zero i)]; decide)) ?_
        have h1 := kcat_lt (k := ((upw W row).take 5).length) (f := fun i => ((upw W row).take 5).getD i 0) (n := 5) (fun i _ => upw_lt (fun p => (hbb.2.1 p).2) 5 i)
        have h2 : ((upw W row).take 5).length ≤ 5 := by rw [List.length_take]; omega
        have h3 : (((upw W row).take 5).length + 1) * 8 ^ 5 ≤ 6 * 8 ^ 5 := Nat.mul_le_mul_right _ (by omega)
        exact Nat.le_trans (Nat.mul_le_mul_right _ (show _ ≤ 6 * 8 ^ 5 * 8 + 1 by omega)) (by decide)
      refine ex_iload_n dWrit_meet_15 rfl ?_
      refine ex_iload_n dWrit_meet_16 rfl ?_
      refine ex_icmp_ge (tgt := 47) dWrit_meet_17 (by decide) (fun hc => ?_) (fun hc => ?_)
      · rw [show row.take i = row from List.take_of_length_le (by omega)] at U u3
        refine ex_aload_n dWrit_meet_47 rfl ?_
        refine ex_get dWrit_meet_48 fg_Writ_20 X.1 rfl ?_
        refine ex_aload_n dWrit_meet_51 rfl ?_
        refine ex_get dWrit_meet_52 fg_Writ_14 X.1 rfl ?_
        refine ex_noEntries dWrit_meet_55 ne_Writ (fun ae => ?_)
        refine ex_iconst (v := nI 0) dWrit_meet_58 (by decide) ?_
        refine ex_s3 dWrit_meet_59 is_Writ_38 cd_Resu_keyOf ar_Resu_keyOf (c_Resu_keyOf (d := d) (e := ae) (n := 0) (es := fun _ => 0) u3 (fun i => upw_lt (fun p => (hbb.2.1 p).2) 5 i) (by omega) (fun i hi => absurd hi (Nat.not_lt_zero _)) U (Or.inl rfl)) (by dsimp only; omega) (Nat.le_of_ble_eq_true rfl) (Nat.le_refl _) (Nat.le_refl _) (fun E h9 q9 => by simp at q9) (fun v8 hp8 hq => ?_)
        obtain ⟨e, e1⟩ := hq
        cases e
        rw [e1]
        refine ex_v1 dWrit_meet_62 iv_Writ_44 cd_Resu_add ar_Resu_add r1 (c_Resu_add (d := d) (k := wkey W row) hk R) (by dsimp only; omega) (Nat.le_of_ble_eq_true rfl) (Nat.le_refl _) (Nat.le_refl _) (fun E h9 q9 => by simp at q9) (fun v7 g1 hq => ?_)
        obtain ⟨e, R1, S1⟩ := hq
        cases e
        refine ex_vret dWrit_meet_65 rfl (Nat.le_refl _) (Nat.le_refl _) ⟨rfl, ?_, F.trans (F2.of S1 (by omega))⟩
        rw [if_pos hb0]
        exact ⟨X.eq (fun q h1 h2 => S1.2 q (by omega)), ⟨_, U.sm S1 (by omega)⟩, R1⟩
      · exact absurd (nI_le (by omega) (by omega)) hc
    | succ j ih =>
      intro i hi hij hb0 X U R F
      have HEi := HE.sm (F.sm hga) (by omega)
      have Uc := U
      obtain ⟨fu, u1, -⟩ := Uc
      have hsplit : upw W (row.take (i + 1)) = upw W (row.take i) ++ (if upp W (row.getD i 0) = 0 then [] else [upp W (row.getD i 0)]) := by
        rw [take_snoc 0 (by omega), upw, List.map_append, List.filter_append]
        congr 1
        by_cases q : upp W (row.getD i 0) = 0
        · rw [if_pos q]; simp [← List.getD_eq_getElem?_getD, q]
        · rw [if_neg q]; simp [← List.getD_eq_getElem?_getD, q]
      have hup := (hbb.2.1 (row.getD i 0)).2
      have next : ∀ hk : xH, Sx hk a x 7 [.ref g] W w row → Ln hk (a + 5) 5 ((upw W (row.take (i + 1))).take 5) → Rs hk g s.1 s.2 → F2 h hk a g → Ex (l, G, d + 3, 0, 0, h, fun o h' => o = .inl none ∧ Sw h' a x g W w row (if b = 0 then radd s (wkey W row) else s) ∧ F2 h h' a g) mWrit_meet 41 [some (.ref a), some (.int (nI n)), some (.int (nI b)), some (.int (nI i))] [] hk 0 0 := by
        intro hk Xk Uk Rk Fk
        refine ex_iinc (L' := [_, _, _, _]) dWrit_meet_41 rfl rfl (by decide) rfl ?_
        refine ex_goto (tgt := 15) dWrit_meet_44 (by decide) ?_
        rw [show nI i + Int32.ofInt 1 = nI (i + 1) from nI_1 i]
        exact ih (i + 1) hk (by omega) hb0 Xk Uk Rk Fk
      refine ex_iload_n dWrit_meet_15 rfl ?_
      refine ex_iload_n dWrit_meet_16 rfl ?_
      refine ex_icmp_ge (tgt := 47) dWrit_meet_17 (by decide) (fun hc => ?_) (fun hc => ?_)
      · exact absurd hc (nI_ge (by omega) (by omega))
      refine ex_aload_n dWrit_meet_20 rfl ?_
      refine ex_iload_n dWrit_meet_21 rfl ?_
      refine ex_u1 dWrit_meet_22 iu_Writ_27_Writ cd_Sear_upperAt ar_Sear_upperAt X.1 (c_upperAt_Writ (d := d) (i := i) (by omega) HEi X) (by dsimp only; omega) (Nat.le_of_ble_eq_true rfl) (Nat.le_refl _) (Nat.le_refl _) (fun E h9 q9 => by simp at q9) (fun v8 hp8 hq => ?_)
      obtain ⟨e, e1⟩ := hq
      cases e
      rw [e1]
      refine ex_if_eq (tgt := 41) dWrit_meet_25 (by decide) (fun hc2 => ?_) (fun hc2 => ?_)
      · have q : upp W (row.getD i 0) = 0 := (nI_eq (b := 0) (by omega) (by omega)).mp hc2
        rw [if_pos q, List.append_nil] at hsplit
        exact next hi X (by rw [hsplit]; exact U) R F
      have q : ¬ upp W (row.getD i 0) = 0 := fun q => hc2 (by rw [q]; rfl)
      rw [if_neg q] at hsplit
      refine ex_aload_n dWrit_meet_28 rfl ?_
      refine ex_get dWrit_meet_29 fg_Writ_14 X.1 rfl ?_
      refine ex_aload_n dWrit_meet_32 rfl ?_
      refine ex_iload_n dWrit_meet_33 rfl ?_
      refine ex_u1 dWrit_meet_34 iu_Writ_27_Writ cd_Sear_upperAt ar_Sear_upperAt X.1 (c_upperAt_Writ (d := d) (i := i) (by omega) HEi X) (by dsimp only; omega) (Nat.le_of_ble_eq_true rfl) (Nat.le_refl _) (Nat.le_refl _) (fun E h9 q9 => by simp at q9) (fun v7 hp7 hq => ?_)
      obtain ⟨e, e1⟩ := hq
      cases e
      rw [e1]
      refine ex_v1 dWrit_meet_37 iv_Writ_31 cd_Line_add ar_Line_add u1 (c_Line_add (d := d) (x := upp W (row.getD i 0)) U) (by dsimp only; omega) (Nat.le_of_ble_eq_true rfl) (Nat.le_refl _) (Nat.le_refl _) (fun E h9 q9 => by simp at q9) (fun v6 g1 hq => ?_)
      obtain ⟨e, U1, S1⟩ := hq
      cases e
      refine ex_pop dWrit_meet_40 rfl ?_
      rw [take_app, ← hsplit] at U1
      exact next g1 (X.eq (fun q h1 h2 => S1.2 q (by omega))) U1 (R.sm S1 (by omega)) (F.trans (F2.of S1 (by omega)))
  refine xMet_of (L := [_, _, _, _]) (by decide) (Nat.le_of_ble_eq_true rfl) rfl ?_
  refine ex_iload_n dWrit_meet_0 rfl ?_
  refine ex_if_eq (tgt := 5) dWrit_meet_1 (by decide) (fun hc => ?_) (fun hc => ?_)
  · have hb0 : b = 0 := (nI_eq (b := 0) (by omega) (by omega)).mp hc
    have Uc := h8
    obtain ⟨fu, u1, -⟩ := Uc
    refine ex_aload_n dWrit_meet_5 rfl ?_
    refine ex_get dWrit_meet_6 fg_Writ_14 h1 rfl ?_
    refine ex_iconst (v := nI 0) dWrit_meet_9 (by decide) ?_
    refine ex_v1 dWrit_meet_10 iv_Writ_24 cd_Line_cutTo ar_Line_cutTo u1 (c_Line_cutTo (d := d) (k := 0) (by omega) h8) (by dsimp only; omega) (Nat.le_of_ble_eq_true rfl) (Nat.le_refl _) (Nat.le_refl _) (fun E h9 q9 => by simp at q9) (fun v9 g1 hq => ?_)
    obtain ⟨e, U1, S1⟩ := hq
    cases e
    refine ex_iconst (v := nI 0) dWrit_meet_13 (by decide) ?_
    refine ex_istore_n (L' := [_, _, _, _]) dWrit_meet_14 (by decide) rfl ?_
    exact loop n 0 g1 (by omega) hb0 (H0.1.eq (fun q h1 h2 => S1.2 q (by omega))) U1 (h9.sm S1 (by omega)) (F2.of S1 (by omega))
  · have hb0 : ¬ b = 0 := fun q => hc (by rw [q]; rfl)
    exact ex_vret dWrit_meet_4 rfl (Nat.le_refl _) (Nat.le_refl _) ⟨rfl, by rw [if_neg hb0]; exact H0, F2.rf⟩
theorem c_fitsUpper_Writ {d : Nat} {h : xH} {row : List Nat} {s : List Nat × Bool} {p ud : Nat} (hu : ud < 100) (hp : p < W.1.length) (HE : Ev h x W) (H : Sw h a x g W w row s) : xMet l G mSear_fitsUpper (d + 2) 0 0 [.ref a, .int (nI p), .int (nI ud)] h (fun o h' => o = .inl (some (.int (bI (fitU tkW W ud p)))) ∧ h' = h) := by
  have o1 := HE.o1
  have hbp := (HE.b.2.1 p).2
  have h1 := H.1.1
  refine xMet_of (L := [_, _, _, _]) (by decide) (Nat.le_of_ble_eq_true rfl) rfl ?_
  refine ex_aload_n dSear_fitsUpper_0 rfl ?_
  refine ex_get dSear_fitsUpper_1 fg_Sear_27_Writ h1 rfl ?_
  refine ex_iload_n dSear_fitsUpper_4 rfl ?_
  refine ex_v1 dSear_fitsUpper_5 iv_Sear_54 cd_Pairs_upperOf ar_Pairs_upperOf o1 (c_Pairs_upperOf (d := d) (i := p) hp HE.1) (by dsimp only; omega) (Nat.le_of_ble_eq_true rfl) (Nat.le_refl _) (Nat.le_refl _) (fun E h9 q9 => by simp at q9) (fun v9 hp9 hq => ?_)
  obtain ⟨e, e1⟩ := hq
  cases e
  rw [e1]
  refine ex_istore_n (L' := [_, _, _, _]) dSear_fitsUpper_8 (by decide) rfl ?_
  refine ex_iload_n dSear_fitsUpper_9 rfl ?_
  refine ex_if_eq (tgt := 22) dSear_fitsUpper_10 (by decide) (fun hc => ?_) (fun hc => ?_)
  · have q : upp W p = 0 := (nI_eq (b := 0) (by omega) (by omega)).mp hc
    refine ex_iconst (v := nI 1) dSear_fitsUpper_22 (by decide) ?_
    refine ex_goto (tgt := 27) dSear_fitsUpper_23 (by decide) ?_
    exact ex_zret dSear_fitsUpper_27 rfl (by decide) (Nat.le_refl _) (Nat.le_refl _) ⟨by unfold fitU; rw [q]; rfl, rfl⟩
  have q : ¬ upp W p = 0 := fun q => hc (by rw [show (W.1.getD p (0, 0)).2 = 0 from q]; rfl)
  have hf : fitU tkW W ud p = tkW ud (upp W p) := by unfold fitU; rw [show (upp W p == 0) = false from by simpa using q]; rfl
  refine ex_aload_n dSear_fitsUpper_13 rfl ?_
  refine ex_iload_n dSear_fitsUpper_14 rfl ?_
  refine ex_iload_n dSear_fitsUpper_15 rfl ?_
  refine ex_u2 dSear_fitsUpper_16 iu_Sear_103_Writ cd_Writ_takesUpper ar_Writ_takesUpper h1 (c_Writ_takesUpper (d := d) (a := a) (i := ud) (z := upp W p) hu) (by dsimp only; omega) (Nat.le_of_ble_eq_true rfl) (Nat.le_refl _) (Nat.le_refl _) (fun E h9 q9 => by simp at q9) (fun v8 hp8 hq => ?_)
  obtain ⟨e, e1⟩ := hq
  cases e
  rw [e1]
  refine ex_if_eq (tgt := 26) dSear_fitsUpper_19 (by decide) (fun hc2 => ?_) (fun hc2 => ?_)
  · refine ex_iconst (v := nI 0) dSear_fitsUpper_26 (by decide) ?_
    exact ex_zret dSear_fitsUpper_27 rfl (by decide) (Nat.le_refl _) (Nat.le_refl _) ⟨by rw [hf, bI_0.mp hc2]; rfl, rfl⟩
  have ht : tkW ud (upp W p) = true := by cases hq9 : tkW ud (upp W p); rw [hq9] at hc2; exact absurd rfl hc2; rfl
  refine ex_iconst (v := nI 1) dSear_fitsUpper_22 (by decide) ?_
  refine ex_goto (tgt := 27) dSear_fitsUpper_23 (by decide) ?_
  exact ex_zret dSear_fitsUpper_27 rfl (by decide) (Nat.le_refl _) (Nat.le_refl _) ⟨by rw [hf, ht]; rfl, rfl⟩
theorem c_put_Writ {d f : Nat} (hgx : x + 17 ≤ g) (hga : g + 2 ≤ a) (ih : ∀ (row : List Nat) (n ld ud : Nat) (s : List Nat × Bool) (h : xH), row.length = n → n + f = 9 → ld ≤ n → ud ≤ n → Ev h x W → Sw h a x g W w row s → xMet l G mSear_extend (d + 4 + 2 * f) 0 0 [.ref a, .int (nI n), .int (nI ld), .int (nI ud)] h (fun o h' => o = .inl none ∧ Sw h' a x g W w row (sExtW W w f row ld ud s) ∧ F2 h h' a g)) {row : List Nat} {n ld ud p : Nat} {s : List Nat × Bool} {h : xH} (hn : row.length = n) (hf : n + f = 8) (hld : ld ≤ n) (hud : ud ≤ n) (hp : p < W.1.length) (HE : Ev h x W) (H : Sw h a x g W w row s) : xMet l G mSear_put (d + 5 + 2 * f) 0 0 [.ref a, .int (nI p), .int (nI n), .int (nI ld), .int (nI ud)] h (fun o h' => o = .inl none ∧ Sw h' a x g W w row (sExtW W w f (row ++ [p]) (if lowp W p = 0 then ld else ld + 1) (if upp W p = 0 then ud else ud + 1) s) ∧ F2 h h' a g) := by
  have hb := HE.b
  have H0 := H
  obtain ⟨⟨h1, h2, ⟨f3, h3, e3⟩, ⟨f4, h4, e4⟩, h5, h6, h7⟩, ⟨u, h8⟩, h9⟩ := H
  have S1 : Sm h (xup h (a + 3) (cI 9 (upd f3 n (nI p)))) (a + 3) (a + 4) := Sm.up (by omega) (by omega)
  have HE1 := HE.sm S1 (by omega)
  have k1 := (S1.2 a (by omega)).trans h1
  have k4 := (S1.2 (a + 4) (by omega)).trans h4
  have S2 : Sm (xup h (a + 3) (cI 9 (upd f3 n (nI p)))) (xup (xup h (a + 3) (cI 9 (upd f3 n (nI p)))) (a + 4) (cI 10 (upd f4 (n + 1) (nI (sbef W (row ++ [p])))))) (a + 4) (a + 5) := Sm.up (by omega) (by omega)
  have X : Sw (xup (xup h (a + 3) (cI 9 (upd f3 n (nI p)))) (a + 4) (cI 10 (upd f4 (n + 1) (nI (sbef W (row ++ [p])))))) a x g W w (row ++ [p]) s := by
    refine ⟨⟨(S2.2 _ (by omega)).trans k1, (h2.sm S1 (by omega)).sm S2 (by omega), ?_, ?_, fun q hq => ?_, by simp; omega, h7⟩, ⟨_, (h8.sm S1 (by omega)).sm S2 (by omega)⟩, (h9.sm S1 (by omega)).sm S2 (by omega)⟩
    · subst hn
      refine ((IA.snoc e3).at (S2.2 _ (by omega))).to (by simp) (fun j hj => ?_)
      by_cases e : j = row.length
      · subst e; rw [va_up_self, getD_snoc]
      · rw [va_up_ne _ _ e, getD_snoc' e]
    · refine (IA.snoc (n := n + 1) (f := fun j => sbef W (row.take j)) (fun j hj => e4 j (by omega))).to (by simp; omega) (fun j hj => ?_)
      by_cases e : j = n + 1
      · subst e; rw [va_up_self, List.take_of_length_le (by simp; omega)]
      · rw [va_up_ne _ _ e, List.take_append_of_le_length (by simp at hj; omega)]
    · rcases List.mem_append.mp hq with q1 | q1
      · exact h5 q q1
      · rw [List.mem_singleton.mp q1]; exact hp
  have HE2 := HE1.sm S2 (by omega)
  generalize hg2 : xup (xup h (a + 3) (cI 9 (upd f3 n (nI p)))) (a + 4) (cI 10 (upd f4 (n + 1) (nI (sbef W (row ++ [p]))))) = g2 at *
  have SS : F2 h g2 a g := (F2.of S1 (by omega)).trans (F2.of S2 (by omega))
  have t72 : ∀ v5 v6 y, v5 = (if lowp W p = 0 then ld else ld + 1) → v6 = (if upp W p = 0 then ud else ud + 1) → Ex (l, G, d + 5 + 2 * f, 0, 0, h, fun o h' => o = .inl none ∧ Sw h' a x g W w row (sExtW W w f (row ++ [p]) (if lowp W p = 0 then ld else ld + 1) (if upp W p = 0 then ud else ud + 1) s) ∧ F2 h h' a g) mSear_put 72 [some (.ref a), some (.int (nI p)), some (.int (nI n)), some (.int (nI ld)), some (.int (nI ud)), some (.int (nI v5)), y] [.int (nI v6)] g2 0 0 := by
    intro v5 v6 y e5 e6
    refine ex_istore (L' := [_, _, _, _, _, _, _]) dSear_put_72 (by decide) rfl ?_
    refine ex_aload_n dSear_put_74 rfl ?_
    refine ex_iload_n dSear_put_75 rfl ?_
    refine ex_iconst (v := nI 1) dSear_put_76 (by decide) ?_
    refine ex_iadd dSear_put_77 ?_
    refine ex_iload dSear_put_78 rfl ?_
    refine ex_iload dSear_put_80 rfl ?_
    rw [show nI n + nI 1 = nI (n + 1) from nI_add _ _]
    refine ex_p3 dSear_put_82 ip_Sear_50 cd_Sear_extend ar_Sear_extend X.1.1 (ih (row ++ [p]) (n + 1) v5 v6 s g2 (by simp [hn]) (by omega) (by rw [e5]; split <;> omega) (by rw [e6]; split <;> omega) HE2 X) (by dsimp only; omega) (Nat.le_of_ble_eq_true rfl) (Nat.le_refl _) (Nat.le_refl _) (fun E h9 q9 => by simp at q9) (fun v9 g3 hq => ?_)
    obtain ⟨e, X3, S3⟩ := hq
    cases e
    rw [e5, e6] at X3
    exact ex_vret dSear_put_85 rfl (Nat.le_refl _) (Nat.le_refl _) ⟨rfl, X3.cut, SS.trans S3⟩
  have t50 : ∀ v5 y z, v5 = (if lowp W p = 0 then ld else ld + 1) → Ex (l, G, d + 5 + 2 * f, 0, 0, h, fun o h' => o = .inl none ∧ Sw h' a x g W w row (sExtW W w f (row ++ [p]) (if lowp W p = 0 then ld else ld + 1) (if upp W p = 0 then ud else ud + 1) s) ∧ F2 h h' a g) mSear_put 50 [some (.ref a), some (.int (nI p)), some (.int (nI n)), some (.int (nI ld)), some (.int (nI ud)), y, z] [.int (nI v5)] g2 0 0 := by
    intro v5 y z e5
    have o1 := HE2.o1
    have hbp := (hb.2.1 p).2
    refine ex_istore (L' := [_, _, _, _, _, _, _]) dSear_put_50 (by decide) rfl ?_
    refine ex_aload_n dSear_put_52 rfl ?_
    refine ex_get dSear_put_53 fg_Sear_27_Writ X.1.1 rfl ?_
    refine ex_iload_n dSear_put_56 rfl ?_
    refine ex_v1 dSear_put_57 iv_Sear_54 cd_Pairs_upperOf ar_Pairs_upperOf o1 (c_Pairs_upperOf (d := d) (i := p) hp HE2.1) (by dsimp only; omega) (Nat.le_of_ble_eq_true rfl) (Nat.le_refl _) (Nat.le_refl _) (fun E h9 q9 => by simp at q9) (fun v9 hp9 hq => ?_)
    obtain ⟨e, e1⟩ := hq
    cases e
    rw [e1]
    refine ex_if_ne (tgt := 68) dSear_put_60 (by decide) (fun hc => ?_) (fun hc => ?_)
    · have q : ¬ upp W p = 0 := fun q => hc (by rw [show (W.1.getD p (0, 0)).2 = 0 from q]; rfl)
      refine ex_iload dSear_put_68 rfl ?_
      refine ex_iconst (v := nI 1) dSear_put_70 (by decide) ?_
      refine ex_iadd dSear_put_71 ?_
      rw [show nI ud + nI 1 = nI (ud + 1) from nI_add _ _]
      exact t72 v5 _ _ e5 (by rw [if_neg q])
    · have q : upp W p = 0 := (nI_eq (b := 0) (by omega) (by omega)).mp hc
      refine ex_iload dSear_put_63 rfl ?_
      refine ex_goto (tgt := 72) dSear_put_65 (by decide) ?_
      exact t72 v5 _ _ e5 (by rw [if_pos q])
  refine xMet_of (L := [_, _, _, _, _, _, _]) (by decide) (Nat.le_of_ble_eq_true rfl) rfl ?_
  refine ex_aload_n dSear_put_0 rfl ?_
  refine ex_get dSear_put_1 fg_Sear_20_Writ h1 rfl ?_
  refine ex_iload_n dSear_put_4 rfl ?_
  refine ex_iload_n dSear_put_5 rfl ?_
  refine ex_iastore dSear_put_6 h3 rfl (by omega) (by omega) ?_
  have o2 := HE1.o2
  have o3 := HE1.2.2.2.1.o
  refine ex_aload_n dSear_put_7 rfl ?_
  refine ex_get dSear_put_8 fg_Sear_24_Writ k1 rfl ?_
  refine ex_iload_n dSear_put_11 rfl ?_
  refine ex_iconst (v := nI 1) dSear_put_12 (by decide) ?_
  refine ex_iadd dSear_put_13 ?_
  refine ex_aload_n dSear_put_14 rfl ?_
  refine ex_get dSear_put_15 fg_Sear_31_Writ k1 rfl ?_
  refine ex_get dSear_put_18 fg_Sear_39 o2 rfl ?_
  refine ex_aload_n dSear_put_21 rfl ?_
  refine ex_get dSear_put_22 fg_Sear_24_Writ k1 rfl ?_
  refine ex_iload_n dSear_put_25 rfl ?_
  refine ex_iaload dSear_put_26 k4 rfl (by omega) (by omega) ?_
  refine ex_iload_n dSear_put_27 rfl ?_
  rw [show f4 n = nI (sbef W row) from by rw [e4 n (by omega)]; dsimp only; rw [List.take_of_length_le (show row.length ≤ n by omega)], show nI n + nI 1 = nI (n + 1) from nI_add _ _]
  refine ex_v2 dSear_put_28 iv_Sear_93 cd_Patt_next ar_Patt_next o3 (c_Patt_next (d := d) (s := sbef W row) (i := p) (by omega) HE1.2.2.2.1) (by dsimp only; omega) (Nat.le_of_ble_eq_true rfl) (Nat.le_refl _) (Nat.le_refl _) (fun E h9 q9 => by simp at q9) (fun v9 hp9 hq => ?_)
  obtain ⟨e, e1⟩ := hq
  cases e
  rw [e1]
  rw [show pnext (W.2.2.2.1.2.1 p) W.2.2.2.1.2.2.1 W.2.2.2.1.2.2.2.2 (sbef W row) = sbef W (row ++ [p]) from (sbef_snoc W row p).symm]
  refine ex_iastore dSear_put_31 k4 rfl (by omega) (by omega) ?_
  rw [hg2]
  have o1 := HE2.o1
  have hbp := (hb.2.1 p).1
  refine ex_aload_n dSear_put_32 rfl ?_
  refine ex_get dSear_put_33 fg_Sear_27_Writ X.1.1 rfl ?_
  refine ex_iload_n dSear_put_36 rfl ?_
  refine ex_v1 dSear_put_37 iv_Sear_97 cd_Pairs_lowerOf ar_Pairs_lowerOf o1 (c_Pairs_lowerOf (d := d) (i := p) hp HE2.1) (by dsimp only; omega) (Nat.le_of_ble_eq_true rfl) (Nat.le_refl _) (Nat.le_refl _) (fun E h9 q9 => by simp at q9) (fun v8 hp8 hq => ?_)
  obtain ⟨e, e1⟩ := hq
  cases e
  rw [e1]
  refine ex_if_ne (tgt := 47) dSear_put_40 (by decide) (fun hc => ?_) (fun hc => ?_)
  · have q : ¬ lowp W p = 0 := fun q => hc (by rw [show (W.1.getD p (0, 0)).1 = 0 from q]; rfl)
    refine ex_iload_n dSear_put_47 rfl ?_
    refine ex_iconst (v := nI 1) dSear_put_48 (by decide) ?_
    refine ex_iadd dSear_put_49 ?_
    rw [show nI ld + nI 1 = nI (ld + 1) from nI_add _ _]
    exact t50 _ _ _ (by rw [if_neg q])
  · have q : lowp W p = 0 := (nI_eq (b := 0) (by omega) (by omega)).mp hc
    refine ex_iload_n dSear_put_43 rfl ?_
    refine ex_goto (tgt := 50) dSear_put_44 (by decide) ?_
    exact t50 _ _ _ (by rw [if_pos q])
theorem c_extend_Writ {d : Nat} (hgx : x + 17 ≤ g) (hga : g + 2 ≤ a) : ∀ f : Nat, ∀ (row : List Nat) (n ld ud : Nat) (s : List Nat × Bool) (h : xH), row.length = n → n + f = 9 → ld ≤ n → ud ≤ n → Ev h x W → Sw h a x g W w row s → xMet l G mSear_extend (d + 4 + 2 * f) 0 0 [.ref a, .int (nI n), .int (nI ld), .int (nI ud)] h (fun o h' => o = .inl none ∧ Sw h' a x g W w row (sExtW W w f row ld ud s) ∧ F2 h h' a g) := by
  intro f
  induction f with
  | zero =>
    intro row n ld ud s h hn hf hld hud HE H
    have at29' : ∀ hi : xH, Sw hi a x g W w row (if ld = w.length ∧ meW ud = true then meetW W s row else s) → F2 h hi a g → Ex (l, G, d + 4 + 2 * 0, 0, 0, h, fun o h' => o = .inl none ∧ Sw h' a x g W w row (sExtW W w 0 row ld ud s) ∧ F2 h h' a g) mSear_extend 29 [some (.ref a), some (.int (nI n)), some (.int (nI ld)), some (.int (nI ud)), none] [] hi 0 0 := by
      intro hi X S
      refine ex_iload_n dSear_extend_29 rfl ?_
      refine ex_bipush (v := nI 9) dSear_extend_30 (by decide) ?_
      refine ex_icmp_lt (tgt := 36) dSear_extend_32 (by decide) (fun hc => ?_) (fun hc => ?_)
      · exact absurd hc (nI_nlt (by omega) (by omega))
      · exact ex_vret dSear_extend_35 rfl (Nat.le_refl _) (Nat.le_refl _) ⟨rfl, X, S⟩
    have at29 : ∀ hi : xH, (if ld = w.length ∧ meW ud = true then meetW W s row else s) = s → F2 h h a g → Ex (l, G, d + 4 + 2 * 0, 0, 0, h, fun o h' => o = .inl none ∧ Sw h' a x g W w row (sExtW W w 0 row ld ud s) ∧ F2 h h' a g) mSear_extend 29 [some (.ref a), some (.int (nI n)), some (.int (nI ld)), some (.int (nI ud)), none] [] h 0 0 := fun _ e S => at29' h (by rw [e]; exact H) S
    have L2 := H.1.2.1
    obtain ⟨fl, l1, l2, l3, l4, l5⟩ := L2
    refine xMet_of (L := [_, _, _, _, _]) (by decide) (Nat.le_of_ble_eq_true rfl) rfl ?_
    refine ex_iload_n dSear_extend_0 rfl ?_
    refine ex_aload_n dSear_extend_1 rfl ?_
    refine ex_get dSear_extend_2 fg_Sear_14_Writ H.1.1 rfl ?_
    refine ex_v0 dSear_extend_5 iv_Sear_60 cd_Line_size ar_Line_size l1 (c_Line_size (d := d) H.1.2.1) (by dsimp only; omega) (Nat.le_of_ble_eq_true rfl) (Nat.le_refl _) (Nat.le_refl _) (fun E h9 q9 => by simp at q9) (fun v9 hp9 hq => ?_)
    obtain ⟨e, e1⟩ := hq
    cases e
    rw [e1]
    refine ex_icmp_ne (tgt := 29) dSear_extend_8 (by decide) (fun hc => ?_) (fun hc => ?_)
    · exact at29 h (if_neg (fun q => hc (by rw [q.1]))) F2.rf
    have hl : ld = w.length := (nI_eq (by omega) (by omega)).mp hc
    refine ex_aload_n dSear_extend_11 rfl ?_
    refine ex_iload_n dSear_extend_12 rfl ?_
    refine ex_u1 dSear_extend_13 iu_Sear_63_Writ cd_Writ_mayEnd ar_Writ_mayEnd H.1.1 (c_Writ_mayEnd (d := d) (a := a) (n := ud)) (by dsimp only; omega) (Nat.le_of_ble_eq_true rfl) (Nat.le_refl _) (Nat.le_refl _) (fun E h9 q9 => by simp at q9) (fun v8 hp8 hq => ?_)
    obtain ⟨e, e1⟩ := hq
    cases e
    rw [e1]
    refine ex_if_eq (tgt := 29) dSear_extend_16 (by decide) (fun hc2 => ?_) (fun hc2 => ?_)
    · exact at29 h (if_neg (fun q => by rw [bI_0.mp hc2] at q; exact absurd q.2 (by decide))) F2.rf
    have hm : meW ud = true := by cases hq9 : meW ud; rw [hq9] at hc2; exact absurd rfl hc2; rfl
    refine ex_aload_n dSear_extend_19 rfl ?_
    refine ex_iload_n dSear_extend_20 rfl ?_
    refine ex_aload_n dSear_extend_21 rfl ?_
    refine ex_iload_n dSear_extend_22 rfl ?_
    have HB := c_brokenRules_Writ (l := l) (G := G) (d := d) HE H.1
    rw [hn] at HB
    refine ex_p1 dSear_extend_23 ip_Sear_67 cd_Sear_brokenRules ar_Sear_brokenRules H.1.1 (HB) (by dsimp only; omega) (Nat.le_of_ble_eq_true rfl) (Nat.le_refl _) (Nat.le_refl _) (fun E h9 q9 => by simp at q9) (fun v7 hp7 hq => ?_)
    obtain ⟨e, e1⟩ := hq
    cases e
    rw [e1]
    refine ex_u2 dSear_extend_26 iu_Sear_70_Writ cd_Writ_meet ar_Writ_meet H.1.1 (c_Writ_meet (d := d) (n := n) hgx hga hn (brkn_lt HE.b.2.2) HE H) (by dsimp only; omega) (Nat.le_of_ble_eq_true rfl) (Nat.le_refl _) (Nat.le_refl _) (fun E h9 q9 => by simp at q9) (fun v6 g1 hq => ?_)
    obtain ⟨e, X1, S1⟩ := hq
    cases e
    refine at29' g1 ?_ S1
    rw [if_pos ⟨hl, hm⟩]
    exact X1
  | succ f ih =>
    intro row n ld ud s h hn hf hld hud HE H
    have hF : sExtW W w (f + 1) row ld ud s = (List.range' 0 W.1.length).foldl (fun s p => if dnW s then s else if fitL W w row ld p && fitU tkW W ud p then sExtW W w f (row ++ [p]) (if lowp W p = 0 then ld else ld + 1) (if upp W p = 0 then ud else ud + 1) s else s) (if ld = w.length ∧ meW ud = true then meetW W s row else s) := by
      rw [← List.range_eq_range']; rfl
    have loop : ∀ (j i : Nat) (hi : xH) (s' : List Nat × Bool), i + j = W.1.length → Sw hi a x g W w row s' → F2 h hi a g → (List.range' i j).foldl (fun s p => if dnW s then s else if fitL W w row ld p && fitU tkW W ud p then sExtW W w f (row ++ [p]) (if lowp W p = 0 then ld else ld + 1) (if upp W p = 0 then ud else ud + 1) s else s) s' = sExtW W w (f + 1) row ld ud s → Ex (l, G, d + 4 + 2 * (f + 1), 0, 0, h, fun o h' => o = .inl none ∧ Sw h' a x g W w row (sExtW W w (f + 1) row ld ud s) ∧ F2 h h' a g) mSear_extend 39 [some (.ref a), some (.int (nI n)), some (.int (nI ld)), some (.int (nI ud)), some (.int (nI i))] [] hi 0 0 := by
      intro j
      induction j with
      | zero =>
        intro i hi s' hij X S hfo
        have HEi := HE.sm (S.sm hga) (by omega)
        have o1 := HEi.o1
        have hb := HEi.b
        refine ex_iload dSear_extend_39 rfl ?_
        refine ex_aload_n dSear_extend_41 rfl ?_
        refine ex_get dSear_extend_42 fg_Sear_27_Writ X.1.1 rfl ?_
        refine ex_v0 dSear_extend_45 iv_Sear_74 cd_Pairs_count ar_Pairs_count o1 (c_Pairs_count (d := d) HEi.1) (by dsimp only; omega) (Nat.le_of_ble_eq_true rfl) (Nat.le_refl _) (Nat.le_refl _) (fun E h9 q9 => by simp at q9) (fun v9 hp9 hq => ?_)
        obtain ⟨e, e1⟩ := hq
        cases e
        rw [e1]
        refine ex_icmp_ge (tgt := 94) dSear_extend_48 (by decide) (fun hc => ?_) (fun hc => ?_)
        · exact ex_vret dSear_extend_94 rfl (Nat.le_refl _) (Nat.le_refl _) ⟨rfl, by rw [← hfo]; exact X, S⟩
        · exact absurd (nI_le (by omega) (by omega)) hc
      | succ j ihj =>
        intro i hi s' hij X S hfo
        have HEi := HE.sm (S.sm hga) (by omega)
        have o1 := HEi.o1
        have hb := HEi.b
        rw [List.range'_succ, List.foldl_cons] at hfo
        have next : ∀ (hk : xH) (s2 : List Nat × Bool), Sw hk a x g W w row s2 → F2 h hk a g → (if dnW s' then s' else if fitL W w row ld i && fitU tkW W ud i then sExtW W w f (row ++ [i]) (if lowp W i = 0 then ld else ld + 1) (if upp W i = 0 then ud else ud + 1) s' else s') = s2 → Ex (l, G, d + 4 + 2 * (f + 1), 0, 0, h, fun o h' => o = .inl none ∧ Sw h' a x g W w row (sExtW W w (f + 1) row ld ud s) ∧ F2 h h' a g) mSear_extend 88 [some (.ref a), some (.int (nI n)), some (.int (nI ld)), some (.int (nI ud)), some (.int (nI i))] [] hk 0 0 := by
          intro hk s2 X2 S2 e2
          rw [e2] at hfo
          refine ex_iinc (L' := [_, _, _, _, _]) dSear_extend_88 rfl rfl (by decide) rfl ?_
          refine ex_goto (tgt := 39) dSear_extend_91 (by decide) ?_
          rw [show nI i + Int32.ofInt 1 = nI (i + 1) from nI_1 i]
          exact ihj (i + 1) hk s2 (by omega) X2 S2 hfo
        refine ex_iload dSear_extend_39 rfl ?_
        refine ex_aload_n dSear_extend_41 rfl ?_
        refine ex_get dSear_extend_42 fg_Sear_27_Writ X.1.1 rfl ?_
        refine ex_v0 dSear_extend_45 iv_Sear_74 cd_Pairs_count ar_Pairs_count o1 (c_Pairs_count (d := d) HEi.1) (by dsimp only; omega) (Nat.le_of_ble_eq_true rfl) (Nat.le_refl _) (Nat.le_refl _) (fun E h9 q9 => by simp at q9) (fun v9 hp9 hq => ?_)
        obtain ⟨e, e1⟩ := hq
        cases e
        rw [e1]
        refine ex_icmp_ge (tgt := 94) dSear_extend_48 (by decide) (fun hc => ?_) (fun hc => ?_)
        · exact absurd hc (nI_ge (by omega) (by omega))
        refine ex_aload_n dSear_extend_51 rfl ?_
        refine ex_u0 dSear_extend_52 iu_Sear_77_Writ cd_Writ_isDone ar_Writ_isDone X.1.1 (c_Writ_isDone (d := d) X) (by dsimp only; omega) (Nat.le_of_ble_eq_true rfl) (Nat.le_refl _) (Nat.le_refl _) (fun E h9 q9 => by simp at q9) (fun v8 hp8 hq => ?_)
        obtain ⟨e, e1⟩ := hq
        cases e
        rw [e1]
        refine ex_if_ne (tgt := 94) dSear_extend_55 (by decide) (fun hc2 => ?_) (fun hc2 => ?_)
        · have hd : dnW s' = true := by unfold dnW; cases hq9 : s'.2; rw [hq9] at hc2; exact absurd rfl hc2; rfl
          rw [if_pos hd] at hfo
          rw [foldl_stop _ (fun q => by rw [if_pos hd])] at hfo
          exact ex_vret dSear_extend_94 rfl (Nat.le_refl _) (Nat.le_refl _) ⟨rfl, by rw [← hfo]; exact X, S⟩
        have hd : ¬ dnW s' = true := by unfold dnW; rw [bI_0.mp hc2]; decide
        refine ex_aload_n dSear_extend_58 rfl ?_
        refine ex_iload dSear_extend_59 rfl ?_
        refine ex_iload_n dSear_extend_61 rfl ?_
        refine ex_iload_n dSear_extend_62 rfl ?_
        have HL := c_fitsLower_Writ (l := l) (G := G) (d := d) (ld := ld) (p := i) (by omega) (by omega) HEi X.1
        rw [hn] at HL
        refine ex_p3 dSear_extend_63 ip_Sear_81 cd_Sear_fitsLower ar_Sear_fitsLower X.1.1 (HL) (by dsimp only; omega) (Nat.le_of_ble_eq_true rfl) (Nat.le_refl _) (Nat.le_refl _) (fun E h9 q9 => by simp at q9) (fun v7 hp7 hq => ?_)
        obtain ⟨e, e1⟩ := hq
        cases e
        rw [e1]
        refine ex_if_eq (tgt := 88) dSear_extend_66 (by decide) (fun hc3 => ?_) (fun hc3 => ?_)
        · exact next hi s' X S (by rw [if_neg hd, bI_0.mp hc3]; rfl)
        have hfl : fitL W w row ld i = true := by cases hq9 : fitL W w row ld i; rw [hq9] at hc3; exact absurd rfl hc3; rfl
        refine ex_aload_n dSear_extend_69 rfl ?_
        refine ex_iload dSear_extend_70 rfl ?_
        refine ex_iload_n dSear_extend_72 rfl ?_
        refine ex_p2 dSear_extend_73 ip_Sear_85 cd_Sear_fitsUpper ar_Sear_fitsUpper X.1.1 (c_fitsUpper_Writ (d := d) (p := i) (ud := ud) (by omega) (by omega) HEi X) (by dsimp only; omega) (Nat.le_of_ble_eq_true rfl) (Nat.le_refl _) (Nat.le_refl _) (fun E h9 q9 => by simp at q9) (fun v6 hp6 hq => ?_)
        obtain ⟨e, e1⟩ := hq
        cases e
        rw [e1]
        refine ex_if_eq (tgt := 88) dSear_extend_76 (by decide) (fun hc4 => ?_) (fun hc4 => ?_)
        · exact next hi s' X S (by rw [if_neg hd, bI_0.mp hc4, Bool.and_false]; rfl)
        have hfu : fitU tkW W ud i = true := by cases hq9 : fitU tkW W ud i; rw [hq9] at hc4; exact absurd rfl hc4; rfl
        refine ex_aload_n dSear_extend_79 rfl ?_
        refine ex_iload dSear_extend_80 rfl ?_
        refine ex_iload_n dSear_extend_82 rfl ?_
        refine ex_iload_n dSear_extend_83 rfl ?_
        refine ex_iload_n dSear_extend_84 rfl ?_
        refine ex_p4 dSear_extend_85 ip_Sear_89 cd_Sear_put ar_Sear_put X.1.1 (c_put_Writ (d := d) (f := f) hgx hga ih (row := row) (n := n) (ld := ld) (ud := ud) (p := i) (s := s') (h := hi) hn (by omega) hld hud (by omega) HEi X) (by dsimp only; omega) (Nat.le_of_ble_eq_true rfl) (Nat.le_refl _) (Nat.le_refl _) (fun E h9 q9 => by simp at q9) (fun v5 g5 hq => ?_)
        obtain ⟨e, X5, S5⟩ := hq
        cases e
        exact next g5 _ X5 (S.trans S5) (by rw [if_neg hd, hfl, hfu]; rfl)
    have at29' : ∀ hi : xH, Sw hi a x g W w row (if ld = w.length ∧ meW ud = true then meetW W s row else s) → F2 h hi a g → Ex (l, G, d + 4 + 2 * (f + 1), 0, 0, h, fun o h' => o = .inl none ∧ Sw h' a x g W w row (sExtW W w (f + 1) row ld ud s) ∧ F2 h h' a g) mSear_extend 29 [some (.ref a), some (.int (nI n)), some (.int (nI ld)), some (.int (nI ud)), none] [] hi 0 0 := by
      intro hi X S
      refine ex_iload_n dSear_extend_29 rfl ?_
      refine ex_bipush (v := nI 9) dSear_extend_30 (by decide) ?_
      refine ex_icmp_lt (tgt := 36) dSear_extend_32 (by decide) (fun hc => ?_) (fun hc => ?_)
      · refine ex_iconst (v := nI 0) dSear_extend_36 (by decide) ?_
        refine ex_istore (L' := [_, _, _, _, _]) dSear_extend_37 (by decide) rfl ?_
        exact loop W.1.length 0 hi _ (by omega) X S hF.symm
      · exact absurd (nI_lt (by omega) (by omega)) hc
    have at29 : ∀ hi : xH, (if ld = w.length ∧ meW ud = true then meetW W s row else s) = s → F2 h h a g → Ex (l, G, d + 4 + 2 * (f + 1), 0, 0, h, fun o h' => o = .inl none ∧ Sw h' a x g W w row (sExtW W w (f + 1) row ld ud s) ∧ F2 h h' a g) mSear_extend 29 [some (.ref a), some (.int (nI n)), some (.int (nI ld)), some (.int (nI ud)), none] [] h 0 0 := fun _ e S => at29' h (by rw [e]; exact H) S
    have L2 := H.1.2.1
    obtain ⟨fl, l1, l2, l3, l4, l5⟩ := L2
    refine xMet_of (L := [_, _, _, _, _]) (by decide) (Nat.le_of_ble_eq_true rfl) rfl ?_
    refine ex_iload_n dSear_extend_0 rfl ?_
    refine ex_aload_n dSear_extend_1 rfl ?_
    refine ex_get dSear_extend_2 fg_Sear_14_Writ H.1.1 rfl ?_
    refine ex_v0 dSear_extend_5 iv_Sear_60 cd_Line_size ar_Line_size l1 (c_Line_size (d := d) H.1.2.1) (by dsimp only; omega) (Nat.le_of_ble_eq_true rfl) (Nat.le_refl _) (Nat.le_refl _) (fun E h9 q9 => by simp at q9) (fun v9 hp9 hq => ?_)
    obtain ⟨e, e1⟩ := hq
    cases e
    rw [e1]
    refine ex_icmp_ne (tgt := 29) dSear_extend_8 (by decide) (fun hc => ?_) (fun hc => ?_)
    · exact at29 h (if_neg (fun q => hc (by rw [q.1]))) F2.rf
    have hl : ld = w.length := (nI_eq (by omega) (by omega)).mp hc
    refine ex_aload_n dSear_extend_11 rfl ?_
    refine ex_iload_n dSear_extend_12 rfl ?_
    refine ex_u1 dSear_extend_13 iu_Sear_63_Writ cd_Writ_mayEnd ar_Writ_mayEnd H.1.1 (c_Writ_mayEnd (d := d) (a := a) (n := ud)) (by dsimp only; omega) (Nat.le_of_ble_eq_true rfl) (Nat.le_refl _) (Nat.le_refl _) (fun E h9 q9 => by simp at q9) (fun v8 hp8 hq => ?_)
    obtain ⟨e, e1⟩ := hq
    cases e
    rw [e1]
    refine ex_if_eq (tgt := 29) dSear_extend_16 (by decide) (fun hc2 => ?_) (fun hc2 => ?_)
    · exact at29 h (if_neg (fun q => by rw [bI_0.mp hc2] at q; exact absurd q.2 (by decide))) F2.rf
    have hm : meW ud = true := by cases hq9 : meW ud; rw [hq9] at hc2; exact absurd rfl hc2; rfl
    refine ex_aload_n dSear_extend_19 rfl ?_
    refine ex_iload_n dSear_extend_20 rfl ?_
    refine ex_aload_n dSear_extend_21 rfl ?_
    refine ex_iload_n dSear_extend_22 rfl ?_
    have HB := c_brokenRules_Writ (l := l) (G := G) (d := d) HE H.1
    rw [hn] at HB
    refine ex_p1 dSear_extend_23 ip_Sear_67 cd_Sear_brokenRules ar_Sear_brokenRules H.1.1 (HB) (by dsimp only; omega) (Nat.le_of_ble_eq_true rfl) (Nat.le_refl _) (Nat.le_refl _) (fun E h9 q9 => by simp at q9) (fun v7 hp7 hq => ?_)
    obtain ⟨e, e1⟩ := hq
    cases e
    rw [e1]
    refine ex_u2 dSear_extend_26 iu_Sear_70_Writ cd_Writ_meet ar_Writ_meet H.1.1 (c_Writ_meet (d := d) (n := n) hgx hga hn (brkn_lt HE.b.2.2) HE H) (by dsimp only; omega) (Nat.le_of_ble_eq_true rfl) (Nat.le_refl _) (Nat.le_refl _) (fun E h9 q9 => by simp at q9) (fun v6 g1 hq => ?_)
    obtain ⟨e, X1, S1⟩ := hq
    cases e
    refine at29' g1 ?_ S1
    rw [if_pos ⟨hl, hm⟩]
    exact X1
end WRIT
