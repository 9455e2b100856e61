/-! PairedWords: the object, its constructor, the small tests of arguments. -/
abbrev xQ : Type := xW × List xEn × List Nat × List Nat × List (List Nat × List Nat) × List Nat
abbrev cPW (x : Nat) : xE := .inr (9, [.ref (x + 1), .ref (x + 4), .ref (x + 17), .ref (x + 40), .ref (x + 42), .ref (x + 44), .ref (x + 79), .ref (x + 81), .ref (x + 83), .ref (x + 90)])
def QB (q : xQ) : Prop := EB q.2.1 ∧ (∀ i, q.2.2.1.getD i 0 < 8) ∧ (∀ i, q.2.2.2.1.getD i 0 < 8) ∧ (∀ j, (∀ i, (q.2.2.2.2.1.getD j ([], [])).1.getD i 0 < 8) ∧ ∀ i, (q.2.2.2.2.1.getD j ([], [])).2.getD i 0 < 8) ∧ ∀ z ∈ q.1.2.1, z.2 < q.1.1.length
def PS (h : xH) (x : Nat) (q : xQ) : Prop := h.2 x = some (cPW x) ∧ Ev h x q.1 ∧ Lx h (x + 17) q.2.1 ∧ (∃ r, Dy h x [] [] r) ∧ Ln h (x + 40) 4 q.2.2.1 ∧ Ln h (x + 42) 5 q.2.2.2.1 ∧ Sa h (x + 44) q.2.2.2.2.1 ∧ Rs h (x + 79) q.2.2.2.2.2 false ∧ Wi h (x + 90) x (x + 81) ∧ QB q
def Fr (h h' : xH) (x : Nat) : Prop := ∀ q : Nat, (q < x ∨ x + 97 ≤ q) → h'.2 q = h.2 q
theorem Fr.of {h h' : xH} {x lo hi : Nat} (S : Sm h h' lo hi) (h1 : x ≤ lo) (h2 : hi ≤ x + 97) : Fr h h' x := fun q hq => S.2 q (by omega)
theorem Fr.trans {h h1 h2 : xH} {x : Nat} (a : Fr h h1 x) (b : Fr h1 h2 x) : Fr h h2 x := fun q hq => (b q hq).trans (a q hq)
theorem Dy.sm {h h' : xH} {x lo hi : Nat} {wd ws : List Nat} {s : List Nat × Bool} (H : Dy h x wd ws s) (hs : Sm h h' lo hi) (hd : x + 90 ≤ lo ∨ hi ≤ x + 21 ∨ (x + 24 ≤ lo ∧ hi ≤ x + 81)) : Dy h' x wd ws s := by
  obtain ⟨h1, h2, h3, c, h4⟩ := H
  exact ⟨h1.at (hs.2 _ (by omega)), h2.sm hs (by omega), h3.sm hs (by omega), c, h4.eq (fun q a b => hs.2 q (by omega))⟩
theorem PS.bump {h : xH} {x : Nat} {q : xQ} (H : PS h x q) : PS (xbump h) x q := H
theorem iv_of {a : Int32} (h : 0 ≤ a.toInt) : a = nI a.toInt.toNat ∧ a.toInt.toNat < 2 ^ 31 := by
  obtain ⟨j, hj, e⟩ := nI_of (x := a) (fun q => by rw [Int32.lt_iff_toInt_lt] at q; have : (0 : Int32).toInt = 0 := rfl; omega)
  have ht : a.toInt = (j : Int) := by rw [e]; exact nI_toInt hj
  rw [ht]; exact ⟨e, hj⟩
theorem lt0 {a : Int32} : a < 0 ↔ a.toInt < 0 := by rw [Int32.lt_iff_toInt_lt]; exact Iff.rfl
theorem le0 {a : Int32} : a ≤ 0 ↔ a.toInt ≤ 0 := by rw [Int32.le_iff_toInt_le]; exact Iff.rfl
theorem eq0 {a : Int32} : a = 0 ↔ a.toInt = 0 := by rw [← Int32.toInt_inj]; exact Iff.rfl
theorem ltN {a : Int32} {n : Nat} (hn : n < 2 ^ 31) : a < nI n ↔ a.toInt < n := by rw [Int32.lt_iff_toInt_lt, nI_toInt hn]
theorem Nlt {a : Int32} {n : Nat} (hn : n < 2 ^ 31) : nI n < a ↔ (n : Int) < a.toInt := by rw [Int32.lt_iff_toInt_lt, nI_toInt hn]
theorem Nle {a : Int32} {n : Nat} (hn : n < 2 ^ 31) : nI n ≤ a ↔ (n : Int) ≤ a.toInt := by rw [Int32.le_iff_toInt_le, nI_toInt hn]
def sg1 (a : Int32) : Bool := decide (0 < a.toInt ∧ a.toInt ≤ 7)
def sg0 (a : Int32) : Bool := decide (0 ≤ a.toInt ∧ a.toInt ≤ 7)
def pt4 (a : Int32) : Bool := decide (0 ≤ a.toInt ∧ a.toInt < 4)
theorem bI_1 {b : Bool} (h : ¬ bI b = 0) : b = true := by cases b; exact absurd rfl h; rfl
/-! what lies within a stretch stays when the stretch is as it was -/
theorem Ln.fe {h h' : xH} {a N : Nat} {w : List Nat} (H : Ln h a N w) (e : ∀ q : Nat, a ≤ q → q < a + 2 → h'.2 q = h.2 q) : Ln h' a N w := H.eq (e _ (by omega) (by omega)) (e _ (by omega) (by omega))
theorem Prs.fe {h h' : xH} {a : Nat} {ps : List (Nat × Nat)} (H : Prs h a ps) (e : ∀ q : Nat, a ≤ q → q < a + 3 → h'.2 q = h.2 q) : Prs h' a ps := by
  obtain ⟨f, g, h1, h2, h3, h4⟩ := H
  exact ⟨f, g, (e _ (by omega) (by omega)).trans h1, (e _ (by omega) (by omega)).trans h2, (e _ (by omega) (by omega)).trans h3, h4⟩
theorem Pt.fe {h h' : xH} {a : Nat} {fl : Bool} {sz hv : Nat → Nat} {st ss ls : Nat} (H : Pt h a fl sz hv st ss ls) (e : ∀ q : Nat, a ≤ q → q < a + 3 → h'.2 q = h.2 q) : Pt h' a fl sz hv st ss ls := by
  obtain ⟨f, g, h1, h2, h3, h4⟩ := H
  exact ⟨f, g, (e _ (by omega) (by omega)).trans h1, (e _ (by omega) (by omega)).trans h2, (e _ (by omega) (by omega)).trans h3, h4⟩
theorem Rs.fe {h h' : xH} {a : Nat} {ks : List Nat} {tm : Bool} (H : Rs h a ks tm) (e : ∀ q : Nat, a ≤ q → q < a + 2 → h'.2 q = h.2 q) : Rs h' a ks tm := by
  obtain ⟨f, h1, h2, h3⟩ := H
  exact ⟨f, (e _ (by omega) (by omega)).trans h1, (e _ (by omega) (by omega)).trans h2, h3⟩
theorem Ru.fe {h h' : xH} {a : Nat} {rs : List (Nat × Nat)} {cx : Nat → Nat} (H : Ru h a rs cx) (e : ∀ q : Nat, a ≤ q → q < a + 13 → h'.2 q = h.2 q) : Ru h' a rs cx := by
  obtain ⟨h1, h2, h3, h4, h5, h6, h7, h8⟩ := H
  exact ⟨(e _ (by omega) (by omega)).trans h1, h2.at (e _ (by omega) (by omega)), h3.at (e _ (by omega) (by omega)), h4.at (e _ (by omega) (by omega)), h5.at (e _ (by omega) (by omega)), h6.at (e _ (by omega) (by omega)), h7.at (e _ (by omega) (by omega)), h8⟩
theorem Sd.fe {h h' : xH} {a : Nat} {rs ps : List (Nat × Nat)} (H : Sd h a rs ps) (e : ∀ q : Nat, a ≤ q → q < a + 13 → h'.2 q = h.2 q) : Sd h' a rs ps := ⟨H.1.at (e _ (by omega) (by omega)), H.2.at (e _ (by omega) (by omega))⟩
theorem Ev.fe {h h' : xH} {x : Nat} {W : xW} (H : Ev h x W) (e : ∀ q : Nat, x + 1 ≤ q → q < x + 17 → h'.2 q = h.2 q) : Ev h' x W :=
  ⟨H.1.fe (fun q a b => e q (by omega) (by omega)), H.2.1.fe (fun q a b => e q (by omega) (by omega)), H.2.2.1.fe (fun q a b => e q (by omega) (by omega)), Pt.fe H.2.2.2.1 (fun q a b => e q (by omega) (by omega)), Pt.fe H.2.2.2.2 (fun q a b => e q (by omega) (by omega))⟩
theorem Lx.fe {h h' : xH} {a : Nat} {es : List xEn} (H : Lx h a es) (e : ∀ q : Nat, a ≤ q → q < a + 23 → h'.2 q = h.2 q) : Lx h' a es := by
  obtain ⟨g, f, h1, h2, h3, h4, h5, h6, h7, h8⟩ := H
  exact ⟨g, f, (e _ (by omega) (by omega)).trans h1, h2.at (e _ (by omega) (by omega)), (e _ (by omega) (by omega)).trans h3, h4, (e _ (by omega) (by omega)).trans h5, h6, fun j hj => (h7 j hj).fe (fun q a b => e q (by omega) (by omega)), h8⟩
theorem Sa.fe {h h' : xH} {a : Nat} {ss : List (List Nat × List Nat)} (H : Sa h a ss) (e : ∀ q : Nat, a ≤ q → q < a + 35 → h'.2 q = h.2 q) : Sa h' a ss := by
  obtain ⟨f, g, h1, h2, h3, h4, h5, h6, h7, h8⟩ := H
  exact ⟨f, g, (e _ (by omega) (by omega)).trans h1, (e _ (by omega) (by omega)).trans h2, (e _ (by omega) (by omega)).trans h3, h4, h5, fun j hj => (h6 j hj).fe (fun q a b => e q (by omega) (by omega)), fun j hj => (h7 j hj).fe (fun q a b => e q (by omega) (by omega)), h8⟩
theorem Dy.fe {h h' : xH} {x : Nat} {wd ws : List Nat} {s : List Nat × Bool} (H : Dy h x wd ws s) (e : ∀ q : Nat, x ≤ q → q < x + 97 → h'.2 q = h.2 q) : Dy h' x wd ws s := by
  obtain ⟨h1, h2, h3, c, h4⟩ := H
  exact ⟨h1.at (e _ (by omega) (by omega)), h2.fe (fun q a b => e q (by omega) (by omega)), h3.fe (fun q a b => e q (by omega) (by omega)), c, h4.eq (fun q a b => e q (by omega) (by omega))⟩
theorem PS.fe {h h' : xH} {x : Nat} {q : xQ} (H : PS h x q) (e : ∀ q : Nat, x ≤ q → q < x + 97 → h'.2 q = h.2 q) : PS h' x q := by
  obtain ⟨h1, h2, h3, ⟨r, h4⟩, h5, h6, h7, h8, h9, hB⟩ := H
  exact ⟨(e _ (by omega) (by omega)).trans h1, h2.fe (fun q a b => e q (by omega) (by omega)), h3.fe (fun q a b => e q (by omega) (by omega)), ⟨r, h4.fe e⟩, h5.fe (fun q a b => e q (by omega) (by omega)), h6.fe (fun q a b => e q (by omega) (by omega)), h7.fe (fun q a b => e q (by omega) (by omega)), h8.fe (fun q a b => e q (by omega) (by omega)), h9.eq (fun q a b => e q (by omega) (by omega)), hB⟩
section PW0
variable {l : Launch} {G : xG} {d : Nat} {h : xH} {x : Nat} {a : Int32}
theorem c_PW_isSign : xMet l G mPW_isSign d 0 0 [.int a] h (fun o h' => o = .inl (some (.int (bI (sg1 a)))) ∧ h' = h) := by
  refine xMet_of (L := [_]) (by decide) (Nat.le_of_ble_eq_true rfl) rfl ?_
  refine ex_iload_n dPW_isSign_0 rfl ?_
  refine ex_if_le (tgt := 14) dPW_isSign_1 (by decide) (fun hc => ?_) (fun hc => ?_)
  · rw [le0] at hc
    refine ex_iconst (v := nI 0) dPW_isSign_14 (by decide) ?_
    exact ex_zret dPW_isSign_15 rfl (by decide) (Nat.le_refl _) (Nat.le_refl _) ⟨by rw [show sg1 a = false from by simp [sg1]; omega]; rfl, rfl⟩
  rw [le0] at hc
  refine ex_iload_n dPW_isSign_4 rfl ?_
  refine ex_bipush (v := nI 7) dPW_isSign_5 (by decide) ?_
  refine ex_icmp_gt (tgt := 14) dPW_isSign_7 (by decide) (fun hc2 => ?_) (fun hc2 => ?_)
  · rw [Nlt (by omega)] at hc2
    refine ex_iconst (v := nI 0) dPW_isSign_14 (by decide) ?_
    exact ex_zret dPW_isSign_15 rfl (by decide) (Nat.le_refl _) (Nat.le_refl _) ⟨by rw [show sg1 a = false from by simp [sg1]; omega]; rfl, rfl⟩
  · rw [Nlt (by omega)] at hc2
    refine ex_iconst (v := nI 1) dPW_isSign_10 (by decide) ?_
    refine ex_goto (tgt := 15) dPW_isSign_11 (by decide) ?_
    exact ex_zret dPW_isSign_15 rfl (by decide) (Nat.le_refl _) (Nat.le_refl _) ⟨by rw [show sg1 a = true from by simp [sg1]; omega]; rfl, rfl⟩
theorem c_PW_isSignOrEmpty : xMet l G mPW_isSignOrEmpty (d + 1) 0 0 [.int a] h (fun o h' => o = .inl (some (.int (bI (sg0 a)))) ∧ h' = h) := by
  refine xMet_of (L := [_]) (by decide) (Nat.le_of_ble_eq_true rfl) rfl ?_
  refine ex_iload_n dPW_isSignOrEmpty_0 rfl ?_
  refine ex_if_eq (tgt := 11) dPW_isSignOrEmpty_1 (by decide) (fun hc => ?_) (fun hc => ?_)
  · rw [eq0] at hc
    refine ex_iconst (v := nI 1) dPW_isSignOrEmpty_11 (by decide) ?_
    refine ex_goto (tgt := 16) dPW_isSignOrEmpty_12 (by decide) ?_
    exact ex_zret dPW_isSignOrEmpty_16 rfl (by decide) (Nat.le_refl _) (Nat.le_refl _) ⟨by rw [show sg0 a = true from by simp [sg0]; omega]; rfl, rfl⟩
  rw [eq0] at hc
  refine ex_iload_n dPW_isSignOrEmpty_4 rfl ?_
  refine ex_s1 dPW_isSignOrEmpty_5 is_PW_169 cd_PW_isSign ar_PW_isSign (c_PW_isSign (d := d) (a := a)) (by dsimp only; omega) (Nat.le_of_ble_eq_true rfl) (Nat.le_refl _) (Nat.le_refl _) (fun E h9 q9 => by simp at q9) (fun v9 hp9 hq => ?_)
  obtain ⟨e, e1⟩ := hq
  cases e
  rw [e1]
  refine ex_if_eq (tgt := 15) dPW_isSignOrEmpty_8 (by decide) (fun hc2 => ?_) (fun hc2 => ?_)
  · have q := bI_0.mp hc2
    refine ex_iconst (v := nI 0) dPW_isSignOrEmpty_15 (by decide) ?_
    exact ex_zret dPW_isSignOrEmpty_16 rfl (by decide) (Nat.le_refl _) (Nat.le_refl _) ⟨by rw [show sg0 a = false from by simp [sg0]; simp [sg1] at q; omega]; rfl, rfl⟩
  · have q := bI_1 hc2
    refine ex_iconst (v := nI 1) dPW_isSignOrEmpty_11 (by decide) ?_
    refine ex_goto (tgt := 16) dPW_isSignOrEmpty_12 (by decide) ?_
    exact ex_zret dPW_isSignOrEmpty_16 rfl (by decide) (Nat.le_refl _) (Nat.le_refl _) ⟨by rw [show sg0 a = true from by simp [sg0]; simp [sg1] at q; omega]; rfl, rfl⟩
theorem c_PW_isPart : xMet l G mPW_isPart d 0 0 [.int a] h (fun o h' => o = .inl (some (.int (bI (pt4 a)))) ∧ h' = h) := by
  refine xMet_of (L := [_]) (by decide) (Nat.le_of_ble_eq_true rfl) rfl ?_
  refine ex_iload_n dPW_isPart_0 rfl ?_
  refine ex_if_lt (tgt := 13) dPW_isPart_1 (by decide) (fun hc => ?_) (fun hc => ?_)
  · rw [lt0] at hc
    refine ex_iconst (v := nI 0) dPW_isPart_13 (by decide) ?_
    exact ex_zret dPW_isPart_14 rfl (by decide) (Nat.le_refl _) (Nat.le_refl _) ⟨by rw [show pt4 a = false from by simp [pt4]; omega]; rfl, rfl⟩
  rw [lt0] at hc
  refine ex_iload_n dPW_isPart_4 rfl ?_
  refine ex_iconst (v := nI 4) dPW_isPart_5 (by decide) ?_
  refine ex_icmp_ge (tgt := 13) dPW_isPart_6 (by decide) (fun hc2 => ?_) (fun hc2 => ?_)
  · rw [Nle (by omega)] at hc2
    refine ex_iconst (v := nI 0) dPW_isPart_13 (by decide) ?_
    exact ex_zret dPW_isPart_14 rfl (by decide) (Nat.le_refl _) (Nat.le_refl _) ⟨by rw [show pt4 a = false from by simp [pt4]; omega]; rfl, rfl⟩
  · rw [Nle (by omega)] at hc2
    refine ex_iconst (v := nI 1) dPW_isPart_9 (by decide) ?_
    refine ex_goto (tgt := 14) dPW_isPart_10 (by decide) ?_
    exact ex_zret dPW_isPart_14 rfl (by decide) (Nat.le_refl _) (Nat.le_refl _) ⟨by rw [show pt4 a = true from by simp [pt4]; omega]; rfl, rfl⟩
def xp0 : xPt := (fun _ => 0, fun _ => 0, 0, 0, 0)
def xw0 : xW := ([], [], fun _ => 0, xp0, xp0)
def xq0 : xQ := (xw0, [], [], [], [], [])
theorem c_PW_init (hz : h.1 = x + 1) (h1 : h.2 x = some (.inr (9, [.null, .null, .null, .null, .null, .null, .null, .null, .null, .null]))) : xMet l G mPW_init (d + 3) 96 539 [.ref x] h (fun o h' => o = .inl none ∧ PS h' x xq0 ∧ h'.1 = x + 97 ∧ ∀ q : Nat, q < x → h'.2 q = h.2 q) := by
  refine xMet_of (L := [_]) (by decide) (Nat.le_of_ble_eq_true rfl) rfl ?_
  refine ex_aload_n dPW_init_0 rfl ?_
  refine ex_objInit dPW_init_1 oi_PW_3 oi_1 oi_2 (by decide) ?_
  refine ex_aload_n dPW_init_4 rfl ?_
  refine ex_new dPW_init_5 nw_PW_9 (Nat.le_of_ble_eq_true rfl) (Nat.le_of_ble_eq_true rfl) ?_
  rw [hz]
  refine ex_dup dPW_init_8 rfl ?_
  refine ex_i0 dPW_init_9 ii_PW_11 cd_Pairs_init ar_Pairs_init (c_Pairs_init (d := d) (a := x + 1) (by simp [xnew, hz]) (by simp [xnew, hz])) (by dsimp only; omega) (Nat.le_of_ble_eq_true rfl) (Nat.le_of_ble_eq_true rfl) (Nat.le_of_ble_eq_true rfl) (fun E h9 q9 => by simp at q9) (fun v9 g0 hq => ?_)
  obtain ⟨e, A0, z0, F0⟩ := hq
  cases e
  have w0 : ∀ q : Nat, q < x + 1 → g0.2 q = h.2 q := fun q hq => by rw [F0 q (by omega), xnew_ne _ (by omega)]
  refine ex_put (fs' := [_, _, _, _, _, _, _, _, _, _]) dPW_init_12 fp_PW_12 ((w0 x (by omega)).trans h1) rfl rfl (Nat.le_of_ble_eq_true rfl) rfl ?_
  have S0 : Sm g0 (xup g0 x (.inr (9, [.ref (x + 1), .null, .null, .null, .null, .null, .null, .null, .null, .null]))) x (x + 1) := Sm.up (by omega) (by omega)
  have t0 : ∀ q : Nat, x < q → q < x + 1 → (xup g0 x (.inr (9, [.ref (x + 1), .null, .null, .null, .null, .null, .null, .null, .null, .null]))).2 q = h.2 q := fun q h1 h2 => (S0.2 q (by omega)).trans (w0 q h2)
  have r0 : ∀ q : Nat, q < x → (xup g0 x (.inr (9, [.ref (x + 1), .null, .null, .null, .null, .null, .null, .null, .null, .null]))).2 q = h.2 q := fun q hq => (S0.2 q (by omega)).trans ((w0 q (by omega)).trans rfl)
  have y0 : (xup g0 x (.inr (9, [.ref (x + 1), .null, .null, .null, .null, .null, .null, .null, .null, .null]))).1 = x + 4 := z0
  have b0 : (xup g0 x (.inr (9, [.ref (x + 1), .null, .null, .null, .null, .null, .null, .null, .null, .null]))).2 x = some (.inr (9, [.ref (x + 1), .null, .null, .null, .null, .null, .null, .null, .null, .null])) := xup_self _ _ _
  have A0 := A0.sm S0 (by omega)
  clear w0 t0 S0 F0 z0
  generalize xup g0 x (.inr (9, [.ref (x + 1), .null, .null, .null, .null, .null, .null, .null, .null, .null])) = k0 at A0 y0 b0 r0 ⊢
  refine ex_aload_n dPW_init_15 rfl ?_
  refine ex_new dPW_init_16 nw_PW_16 (Nat.le_of_ble_eq_true rfl) (Nat.le_of_ble_eq_true rfl) ?_
  rw [y0]
  refine ex_dup dPW_init_19 rfl ?_
  refine ex_i0 dPW_init_20 ii_PW_18 cd_Rule_init ar_Rule_init (c_Rule_init (d := d) (a := x + 4) (by simp [xnew, y0]) (by simp [xnew, y0])) (by dsimp only; omega) (Nat.le_of_ble_eq_true rfl) (Nat.le_of_ble_eq_true rfl) (Nat.le_of_ble_eq_true rfl) (fun E h9 q9 => by simp at q9) (fun v9 g1 hq => ?_)
  obtain ⟨e, A1, A2, A3, z1, F1⟩ := hq
  cases e
  have w1 : ∀ q : Nat, q < x + 4 → g1.2 q = k0.2 q := fun q hq => by rw [F1 q (by omega), xnew_ne _ (by omega)]
  refine ex_put (fs' := [_, _, _, _, _, _, _, _, _, _]) dPW_init_23 fp_PW_19 ((w1 x (by omega)).trans b0) rfl rfl (Nat.le_of_ble_eq_true rfl) rfl ?_
  have S1 : Sm g1 (xup g1 x (.inr (9, [.ref (x + 1), .ref (x + 4), .null, .null, .null, .null, .null, .null, .null, .null]))) x (x + 1) := Sm.up (by omega) (by omega)
  have t1 : ∀ q : Nat, x < q → q < x + 4 → (xup g1 x (.inr (9, [.ref (x + 1), .ref (x + 4), .null, .null, .null, .null, .null, .null, .null, .null]))).2 q = k0.2 q := fun q h1 h2 => (S1.2 q (by omega)).trans (w1 q h2)
  have r1 : ∀ q : Nat, q < x → (xup g1 x (.inr (9, [.ref (x + 1), .ref (x + 4), .null, .null, .null, .null, .null, .null, .null, .null]))).2 q = h.2 q := fun q hq => (S1.2 q (by omega)).trans ((w1 q (by omega)).trans (r0 q hq))
  have y1 : (xup g1 x (.inr (9, [.ref (x + 1), .ref (x + 4), .null, .null, .null, .null, .null, .null, .null, .null]))).1 = x + 17 := z1
  have b1 : (xup g1 x (.inr (9, [.ref (x + 1), .ref (x + 4), .null, .null, .null, .null, .null, .null, .null, .null]))).2 x = some (.inr (9, [.ref (x + 1), .ref (x + 4), .null, .null, .null, .null, .null, .null, .null, .null])) := xup_self _ _ _
  have A0 := A0.fe (fun q a b => t1 q (by omega) (by omega))
  have A1 := A1.sm S1 (by omega)
  have A2 := Pt.sm A2 S1 (by omega)
  have A3 := Pt.sm A3 S1 (by omega)
  clear w1 t1 S1 F1 z1 y0 b0 r0
  generalize xup g1 x (.inr (9, [.ref (x + 1), .ref (x + 4), .null, .null, .null, .null, .null, .null, .null, .null])) = k1 at A0 A1 A2 A3 y1 b1 r1 ⊢
  refine ex_aload_n dPW_init_26 rfl ?_
  refine ex_new dPW_init_27 nw_PW_23 (Nat.le_of_ble_eq_true rfl) (Nat.le_of_ble_eq_true rfl) ?_
  rw [y1]
  refine ex_dup dPW_init_30 rfl ?_
  refine ex_i0 dPW_init_31 ii_PW_25 cd_Lexi_init ar_Lexi_init (c_Lexi_init (d := d) (a := x + 17) (by simp [xnew, y1]) (by simp [xnew, y1])) (by dsimp only; omega) (Nat.le_of_ble_eq_true rfl) (Nat.le_of_ble_eq_true rfl) (Nat.le_of_ble_eq_true rfl) (fun E h9 q9 => by simp at q9) (fun v9 g2 hq => ?_)
  obtain ⟨e, A4, A5, A6, z2, F2⟩ := hq
  cases e
  have w2 : ∀ q : Nat, q < x + 17 → g2.2 q = k1.2 q := fun q hq => by rw [F2 q (by omega), xnew_ne _ (by omega)]
  refine ex_put (fs' := [_, _, _, _, _, _, _, _, _, _]) dPW_init_34 fp_PW_26 ((w2 x (by omega)).trans b1) rfl rfl (Nat.le_of_ble_eq_true rfl) rfl ?_
  have S2 : Sm g2 (xup g2 x (.inr (9, [.ref (x + 1), .ref (x + 4), .ref (x + 17), .null, .null, .null, .null, .null, .null, .null]))) x (x + 1) := Sm.up (by omega) (by omega)
  have t2 : ∀ q : Nat, x < q → q < x + 17 → (xup g2 x (.inr (9, [.ref (x + 1), .ref (x + 4), .ref (x + 17), .null, .null, .null, .null, .null, .null, .null]))).2 q = k1.2 q := fun q h1 h2 => (S2.2 q (by omega)).trans (w2 q h2)
  have r2 : ∀ q : Nat, q < x → (xup g2 x (.inr (9, [.ref (x + 1), .ref (x + 4), .ref (x + 17), .null, .null, .null, .null, .null, .null, .null]))).2 q = h.2 q := fun q hq => (S2.2 q (by omega)).trans ((w2 q (by omega)).trans (r1 q hq))
  have y2 : (xup g2 x (.inr (9, [.ref (x + 1), .ref (x + 4), .ref (x + 17), .null, .null, .null, .null, .null, .null, .null]))).1 = x + 40 := z2
  have b2 : (xup g2 x (.inr (9, [.ref (x + 1), .ref (x + 4), .ref (x + 17), .null, .null, .null, .null, .null, .null, .null]))).2 x = some (.inr (9, [.ref (x + 1), .ref (x + 4), .ref (x + 17), .null, .null, .null, .null, .null, .null, .null])) := xup_self _ _ _
  have A0 := A0.fe (fun q a b => t2 q (by omega) (by omega))
  have A1 := A1.fe (fun q a b => t2 q (by omega) (by omega))
  have A2 := Pt.fe A2 (fun q a b => t2 q (by omega) (by omega))
  have A3 := Pt.fe A3 (fun q a b => t2 q (by omega) (by omega))
  have A4 := A4.sm S2 (by omega)
  have A5 := A5.at (S2.2 _ (by omega))
  have A6 := A6.sm S2 (by omega)
  clear w2 t2 S2 F2 z2 y1 b1 r1
  generalize xup g2 x (.inr (9, [.ref (x + 1), .ref (x + 4), .ref (x + 17), .null, .null, .null, .null, .null, .null, .null])) = k2 at A0 A1 A2 A3 A4 A5 A6 y2 b2 r2 ⊢
  refine ex_aload_n dPW_init_37 rfl ?_
  refine ex_new dPW_init_38 nw_PW_30 (Nat.le_of_ble_eq_true rfl) (Nat.le_of_ble_eq_true rfl) ?_
  rw [y2]
  refine ex_dup dPW_init_41 rfl ?_
  refine ex_iconst (v := nI 4) dPW_init_42 (by decide) ?_
  refine ex_i1 dPW_init_43 ii_PW_32 cd_Line_init ar_Line_init (c_Line_init (d := d) (a := x + 40) (N := 4) (by omega) (by simp [xnew, y2]) (by simp [xnew, y2])) (by dsimp only; omega) (Nat.le_of_ble_eq_true rfl) (Nat.le_of_ble_eq_true rfl) (Nat.le_of_ble_eq_true rfl) (fun E h9 q9 => by simp at q9) (fun v9 g3 hq => ?_)
  obtain ⟨e, A7, z3, F3⟩ := hq
  cases e
  have w3 : ∀ q : Nat, q < x + 40 → g3.2 q = k2.2 q := fun q hq => by rw [F3 q (by omega), xnew_ne _ (by omega)]
  refine ex_put (fs' := [_, _, _, _, _, _, _, _, _, _]) dPW_init_46 fp_PW_35 ((w3 x (by omega)).trans b2) rfl rfl (Nat.le_of_ble_eq_true rfl) rfl ?_
  have S3 : Sm g3 (xup g3 x (.inr (9, [.ref (x + 1), .ref (x + 4), .ref (x + 17), .ref (x + 40), .null, .null, .null, .null, .null, .null]))) x (x + 1) := Sm.up (by omega) (by omega)
  have t3 : ∀ q : Nat, x < q → q < x + 40 → (xup g3 x (.inr (9, [.ref (x + 1), .ref (x + 4), .ref (x + 17), .ref (x + 40), .null, .null, .null, .null, .null, .null]))).2 q = k2.2 q := fun q h1 h2 => (S3.2 q (by omega)).trans (w3 q h2)
  have r3 : ∀ q : Nat, q < x → (xup g3 x (.inr (9, [.ref (x + 1), .ref (x + 4), .ref (x + 17), .ref (x + 40), .null, .null, .null, .null, .null, .null]))).2 q = h.2 q := fun q hq => (S3.2 q (by omega)).trans ((w3 q (by omega)).trans (r2 q hq))
  have y3 : (xup g3 x (.inr (9, [.ref (x + 1), .ref (x + 4), .ref (x + 17), .ref (x + 40), .null, .null, .null, .null, .null, .null]))).1 = x + 42 := z3
  have b3 : (xup g3 x (.inr (9, [.ref (x + 1), .ref (x + 4), .ref (x + 17), .ref (x + 40), .null, .null, .null, .null, .null, .null]))).2 x = some (.inr (9, [.ref (x + 1), .ref (x + 4), .ref (x + 17), .ref (x + 40), .null, .null, .null, .null, .null, .null])) := xup_self _ _ _
  have A0 := A0.fe (fun q a b => t3 q (by omega) (by omega))
  have A1 := A1.fe (fun q a b => t3 q (by omega) (by omega))
  have A2 := Pt.fe A2 (fun q a b => t3 q (by omega) (by omega))
  have A3 := Pt.fe A3 (fun q a b => t3 q (by omega) (by omega))
  have A4 := A4.fe (fun q a b => t3 q (by omega) (by omega))
  have A5 := A5.at (t3 _ (by omega) (by omega))
  have A6 := A6.fe (fun q a b => t3 q (by omega) (by omega))
  have A7 := A7.sm S3 (by omega)
  clear w3 t3 S3 F3 z3 y2 b2 r2
  generalize xup g3 x (.inr (9, [.ref (x + 1), .ref (x + 4), .ref (x + 17), .ref (x + 40), .null, .null, .null, .null, .null, .null])) = k3 at A0 A1 A2 A3 A4 A5 A6 A7 y3 b3 r3 ⊢
  refine ex_aload_n dPW_init_49 rfl ?_
  refine ex_new dPW_init_50 nw_PW_30 (Nat.le_of_ble_eq_true rfl) (Nat.le_of_ble_eq_true rfl) ?_
  rw [y3]
  refine ex_dup dPW_init_53 rfl ?_
  refine ex_iconst (v := nI 5) dPW_init_54 (by decide) ?_
  refine ex_i1 dPW_init_55 ii_PW_32 cd_Line_init ar_Line_init (c_Line_init (d := d) (a := x + 42) (N := 5) (by omega) (by simp [xnew, y3]) (by simp [xnew, y3])) (by dsimp only; omega) (Nat.le_of_ble_eq_true rfl) (Nat.le_of_ble_eq_true rfl) (Nat.le_of_ble_eq_true rfl) (fun E h9 q9 => by simp at q9) (fun v9 g4 hq => ?_)
  obtain ⟨e, A8, z4, F4⟩ := hq
  cases e
  have w4 : ∀ q : Nat, q < x + 42 → g4.2 q = k3.2 q := fun q hq => by rw [F4 q (by omega), xnew_ne _ (by omega)]
  refine ex_put (fs' := [_, _, _, _, _, _, _, _, _, _]) dPW_init_58 fp_PW_39 ((w4 x (by omega)).trans b3) rfl rfl (Nat.le_of_ble_eq_true rfl) rfl ?_
  have S4 : Sm g4 (xup g4 x (.inr (9, [.ref (x + 1), .ref (x + 4), .ref (x + 17), .ref (x + 40), .ref (x + 42), .null, .null, .null, .null, .null]))) x (x + 1) := Sm.up (by omega) (by omega)
  have t4 : ∀ q : Nat, x < q → q < x + 42 → (xup g4 x (.inr (9, [.ref (x + 1), .ref (x + 4), .ref (x + 17), .ref (x + 40), .ref (x + 42), .null, .null, .null, .null, .null]))).2 q = k3.2 q := fun q h1 h2 => (S4.2 q (by omega)).trans (w4 q h2)
  have r4 : ∀ q : Nat, q < x → (xup g4 x (.inr (9, [.ref (x + 1), .ref (x + 4), .ref (x + 17), .ref (x + 40), .ref (x + 42), .null, .null, .null, .null, .null]))).2 q = h.2 q := fun q hq => (S4.2 q (by omega)).trans ((w4 q (by omega)).trans (r3 q hq))
  have y4 : (xup g4 x (.inr (9, [.ref (x + 1), .ref (x + 4), .ref (x + 17), .ref (x + 40), .ref (x + 42), .null, .null, .null, .null, .null]))).1 = x + 44 := z4
  have b4 : (xup g4 x (.inr (9, [.ref (x + 1), .ref (x + 4), .ref (x + 17), .ref (x + 40), .ref (x + 42), .null, .null, .null, .null, .null]))).2 x = some (.inr (9, [.ref (x + 1), .ref (x + 4), .ref (x + 17), .ref (x + 40), .ref (x + 42), .null, .null, .null, .null, .null])) := xup_self _ _ _
  have A0 := A0.fe (fun q a b => t4 q (by omega) (by omega))
  have A1 := A1.fe (fun q a b => t4 q (by omega) (by omega))
  have A2 := Pt.fe A2 (fun q a b => t4 q (by omega) (by omega))
  have A3 := Pt.fe A3 (fun q a b => t4 q (by omega) (by omega))
  have A4 := A4.fe (fun q a b => t4 q (by omega) (by omega))
  have A5 := A5.at (t4 _ (by omega) (by omega))
  have A6 := A6.fe (fun q a b => t4 q (by omega) (by omega))
  have A7 := A7.fe (fun q a b => t4 q (by omega) (by omega))
  have A8 := A8.sm S4 (by omega)
  clear w4 t4 S4 F4 z4 y3 b3 r3
  generalize xup g4 x (.inr (9, [.ref (x + 1), .ref (x + 4), .ref (x + 17), .ref (x + 40), .ref (x + 42), .null, .null, .null, .null, .null])) = k4 at A0 A1 A2 A3 A4 A5 A6 A7 A8 y4 b4 r4 ⊢
  refine ex_aload_n dPW_init_61 rfl ?_
  refine ex_new dPW_init_62 nw_PW_42 (Nat.le_of_ble_eq_true rfl) (Nat.le_of_ble_eq_true rfl) ?_
  rw [y4]
  refine ex_dup dPW_init_65 rfl ?_
  refine ex_i0 dPW_init_66 ii_PW_44 cd_Samp_init ar_Samp_init (c_Samp_init (d := d) (a := x + 44) (by simp [xnew, y4]) (by simp [xnew, y4])) (by dsimp only; omega) (Nat.le_of_ble_eq_true rfl) (Nat.le_of_ble_eq_true rfl) (Nat.le_of_ble_eq_true rfl) (fun E h9 q9 => by simp at q9) (fun v9 g5 hq => ?_)
  obtain ⟨e, A9, z5, F5⟩ := hq
  cases e
  have w5 : ∀ q : Nat, q < x + 44 → g5.2 q = k4.2 q := fun q hq => by rw [F5 q (by omega), xnew_ne _ (by omega)]
  refine ex_put (fs' := [_, _, _, _, _, _, _, _, _, _]) dPW_init_69 fp_PW_45 ((w5 x (by omega)).trans b4) rfl rfl (Nat.le_of_ble_eq_true rfl) rfl ?_
  have S5 : Sm g5 (xup g5 x (.inr (9, [.ref (x + 1), .ref (x + 4), .ref (x + 17), .ref (x + 40), .ref (x + 42), .ref (x + 44), .null, .null, .null, .null]))) x (x + 1) := Sm.up (by omega) (by omega)
  have t5 : ∀ q : Nat, x < q → q < x + 44 → (xup g5 x (.inr (9, [.ref (x + 1), .ref (x + 4), .ref (x + 17), .ref (x + 40), .ref (x + 42), .ref (x + 44), .null, .null, .null, .null]))).2 q = k4.2 q := fun q h1 h2 => (S5.2 q (by omega)).trans (w5 q h2)
  have r5 : ∀ q : Nat, q < x → (xup g5 x (.inr (9, [.ref (x + 1), .ref (x + 4), .ref (x + 17), .ref (x + 40), .ref (x + 42), .ref (x + 44), .null, .null, .null, .null]))).2 q = h.2 q := fun q hq => (S5.2 q (by omega)).trans ((w5 q (by omega)).trans (r4 q hq))
  have y5 : (xup g5 x (.inr (9, [.ref (x + 1), .ref (x + 4), .ref (x + 17), .ref (x + 40), .ref (x + 42), .ref (x + 44), .null, .null, .null, .null]))).1 = x + 79 := z5
  have b5 : (xup g5 x (.inr (9, [.ref (x + 1), .ref (x + 4), .ref (x + 17), .ref (x + 40), .ref (x + 42), .ref (x + 44), .null, .null, .null, .null]))).2 x = some (.inr (9, [.ref (x + 1), .ref (x + 4), .ref (x + 17), .ref (x + 40), .ref (x + 42), .ref (x + 44), .null, .null, .null, .null])) := xup_self _ _ _
  have A0 := A0.fe (fun q a b => t5 q (by omega) (by omega))
  have A1 := A1.fe (fun q a b => t5 q (by omega) (by omega))
  have A2 := Pt.fe A2 (fun q a b => t5 q (by omega) (by omega))
  have A3 := Pt.fe A3 (fun q a b => t5 q (by omega) (by omega))
  have A4 := A4.fe (fun q a b => t5 q (by omega) (by omega))
  have A5 := A5.at (t5 _ (by omega) (by omega))
  have A6 := A6.fe (fun q a b => t5 q (by omega) (by omega))
  have A7 := A7.fe (fun q a b => t5 q (by omega) (by omega))
  have A8 := A8.fe (fun q a b => t5 q (by omega) (by omega))
  have A9 := A9.sm S5 (by omega)
  clear w5 t5 S5 F5 z5 y4 b4 r4
  generalize xup g5 x (.inr (9, [.ref (x + 1), .ref (x + 4), .ref (x + 17), .ref (x + 40), .ref (x + 42), .ref (x + 44), .null, .null, .null, .null])) = k5 at A0 A1 A2 A3 A4 A5 A6 A7 A8 A9 y5 b5 r5 ⊢
  refine ex_aload_n dPW_init_72 rfl ?_
  refine ex_new dPW_init_73 nw_PW_49 (Nat.le_of_ble_eq_true rfl) (Nat.le_of_ble_eq_true rfl) ?_
  rw [y5]
  refine ex_dup dPW_init_76 rfl ?_
  refine ex_i0 dPW_init_77 ii_PW_51 cd_Resu_init ar_Resu_init (c_Resu_init (d := d) (a := x + 79) (by simp [xnew, y5]) (by simp [xnew, y5])) (by dsimp only; omega) (Nat.le_of_ble_eq_true rfl) (Nat.le_of_ble_eq_true rfl) (Nat.le_of_ble_eq_true rfl) (fun E h9 q9 => by simp at q9) (fun v9 g6 hq => ?_)
  obtain ⟨e, B0, z6, F6⟩ := hq
  cases e
  have w6 : ∀ q : Nat, q < x + 79 → g6.2 q = k5.2 q := fun q hq => by rw [F6 q (by omega), xnew_ne _ (by omega)]
  refine ex_put (fs' := [_, _, _, _, _, _, _, _, _, _]) dPW_init_80 fp_PW_52 ((w6 x (by omega)).trans b5) rfl rfl (Nat.le_of_ble_eq_true rfl) rfl ?_
  have S6 : Sm g6 (xup g6 x (.inr (9, [.ref (x + 1), .ref (x + 4), .ref (x + 17), .ref (x + 40), .ref (x + 42), .ref (x + 44), .ref (x + 79), .null, .null, .null]))) x (x + 1) := Sm.up (by omega) (by omega)
  have t6 : ∀ q : Nat, x < q → q < x + 79 → (xup g6 x (.inr (9, [.ref (x + 1), .ref (x + 4), .ref (x + 17), .ref (x + 40), .ref (x + 42), .ref (x + 44), .ref (x + 79), .null, .null, .null]))).2 q = k5.2 q := fun q h1 h2 => (S6.2 q (by omega)).trans (w6 q h2)
  have r6 : ∀ q : Nat, q < x → (xup g6 x (.inr (9, [.ref (x + 1), .ref (x + 4), .ref (x + 17), .ref (x + 40), .ref (x + 42), .ref (x + 44), .ref (x + 79), .null, .null, .null]))).2 q = h.2 q := fun q hq => (S6.2 q (by omega)).trans ((w6 q (by omega)).trans (r5 q hq))
  have y6 : (xup g6 x (.inr (9, [.ref (x + 1), .ref (x + 4), .ref (x + 17), .ref (x + 40), .ref (x + 42), .ref (x + 44), .ref (x + 79), .null, .null, .null]))).1 = x + 81 := z6
  have b6 : (xup g6 x (.inr (9, [.ref (x + 1), .ref (x + 4), .ref (x + 17), .ref (x + 40), .ref (x + 42), .ref (x + 44), .ref (x + 79), .null, .null, .null]))).2 x = some (.inr (9, [.ref (x + 1), .ref (x + 4), .ref (x + 17), .ref (x + 40), .ref (x + 42), .ref (x + 44), .ref (x + 79), .null, .null, .null])) := xup_self _ _ _
  have A0 := A0.fe (fun q a b => t6 q (by omega) (by omega))
  have A1 := A1.fe (fun q a b => t6 q (by omega) (by omega))
  have A2 := Pt.fe A2 (fun q a b => t6 q (by omega) (by omega))
  have A3 := Pt.fe A3 (fun q a b => t6 q (by omega) (by omega))
  have A4 := A4.fe (fun q a b => t6 q (by omega) (by omega))
  have A5 := A5.at (t6 _ (by omega) (by omega))
  have A6 := A6.fe (fun q a b => t6 q (by omega) (by omega))
  have A7 := A7.fe (fun q a b => t6 q (by omega) (by omega))
  have A8 := A8.fe (fun q a b => t6 q (by omega) (by omega))
  have A9 := A9.fe (fun q a b => t6 q (by omega) (by omega))
  have B0 := B0.sm S6 (by omega)
  clear w6 t6 S6 F6 z6 y5 b5 r5
  generalize xup g6 x (.inr (9, [.ref (x + 1), .ref (x + 4), .ref (x + 17), .ref (x + 40), .ref (x + 42), .ref (x + 44), .ref (x + 79), .null, .null, .null])) = k6 at A0 A1 A2 A3 A4 A5 A6 A7 A8 A9 B0 y6 b6 r6 ⊢
  refine ex_aload_n dPW_init_83 rfl ?_
  refine ex_new dPW_init_84 nw_PW_49 (Nat.le_of_ble_eq_true rfl) (Nat.le_of_ble_eq_true rfl) ?_
  rw [y6]
  refine ex_dup dPW_init_87 rfl ?_
  refine ex_i0 dPW_init_88 ii_PW_51 cd_Resu_init ar_Resu_init (c_Resu_init (d := d) (a := x + 81) (by simp [xnew, y6]) (by simp [xnew, y6])) (by dsimp only; omega) (Nat.le_of_ble_eq_true rfl) (Nat.le_of_ble_eq_true rfl) (Nat.le_of_ble_eq_true rfl) (fun E h9 q9 => by simp at q9) (fun v9 g7 hq => ?_)
  obtain ⟨e, B1, z7, F7⟩ := hq
  cases e
  have w7 : ∀ q : Nat, q < x + 81 → g7.2 q = k6.2 q := fun q hq => by rw [F7 q (by omega), xnew_ne _ (by omega)]
  refine ex_put (fs' := [_, _, _, _, _, _, _, _, _, _]) dPW_init_91 fp_PW_56 ((w7 x (by omega)).trans b6) rfl rfl (Nat.le_of_ble_eq_true rfl) rfl ?_
  have S7 : Sm g7 (xup g7 x (.inr (9, [.ref (x + 1), .ref (x + 4), .ref (x + 17), .ref (x + 40), .ref (x + 42), .ref (x + 44), .ref (x + 79), .ref (x + 81), .null, .null]))) x (x + 1) := Sm.up (by omega) (by omega)
  have t7 : ∀ q : Nat, x < q → q < x + 81 → (xup g7 x (.inr (9, [.ref (x + 1), .ref (x + 4), .ref (x + 17), .ref (x + 40), .ref (x + 42), .ref (x + 44), .ref (x + 79), .ref (x + 81), .null, .null]))).2 q = k6.2 q := fun q h1 h2 => (S7.2 q (by omega)).trans (w7 q h2)
  have r7 : ∀ q : Nat, q < x → (xup g7 x (.inr (9, [.ref (x + 1), .ref (x + 4), .ref (x + 17), .ref (x + 40), .ref (x + 42), .ref (x + 44), .ref (x + 79), .ref (x + 81), .null, .null]))).2 q = h.2 q := fun q hq => (S7.2 q (by omega)).trans ((w7 q (by omega)).trans (r6 q hq))
  have y7 : (xup g7 x (.inr (9, [.ref (x + 1), .ref (x + 4), .ref (x + 17), .ref (x + 40), .ref (x + 42), .ref (x + 44), .ref (x + 79), .ref (x + 81), .null, .null]))).1 = x + 83 := z7
  have b7 : (xup g7 x (.inr (9, [.ref (x + 1), .ref (x + 4), .ref (x + 17), .ref (x + 40), .ref (x + 42), .ref (x + 44), .ref (x + 79), .ref (x + 81), .null, .null]))).2 x = some (.inr (9, [.ref (x + 1), .ref (x + 4), .ref (x + 17), .ref (x + 40), .ref (x + 42), .ref (x + 44), .ref (x + 79), .ref (x + 81), .null, .null])) := xup_self _ _ _
  have A0 := A0.fe (fun q a b => t7 q (by omega) (by omega))
  have A1 := A1.fe (fun q a b => t7 q (by omega) (by omega))
  have A2 := Pt.fe A2 (fun q a b => t7 q (by omega) (by omega))
  have A3 := Pt.fe A3 (fun q a b => t7 q (by omega) (by omega))
  have A4 := A4.fe (fun q a b => t7 q (by omega) (by omega))
  have A5 := A5.at (t7 _ (by omega) (by omega))
  have A6 := A6.fe (fun q a b => t7 q (by omega) (by omega))
  have A7 := A7.fe (fun q a b => t7 q (by omega) (by omega))
  have A8 := A8.fe (fun q a b => t7 q (by omega) (by omega))
  have A9 := A9.fe (fun q a b => t7 q (by omega) (by omega))
  have B0 := B0.fe (fun q a b => t7 q (by omega) (by omega))
  have B1 := B1.sm S7 (by omega)
  clear w7 t7 S7 F7 z7 y6 b6 r6
  generalize xup g7 x (.inr (9, [.ref (x + 1), .ref (x + 4), .ref (x + 17), .ref (x + 40), .ref (x + 42), .ref (x + 44), .ref (x + 79), .ref (x + 81), .null, .null])) = k7 at A0 A1 A2 A3 A4 A5 A6 A7 A8 A9 B0 B1 y7 b7 r7 ⊢
  refine ex_aload_n dPW_init_94 rfl ?_
  refine ex_new dPW_init_95 nw_PW_59 (Nat.le_of_ble_eq_true rfl) (Nat.le_of_ble_eq_true rfl) ?_
  rw [y7]
  refine ex_dup dPW_init_98 rfl ?_
  refine ex_aload_n dPW_init_99 rfl ?_
  refine ex_get dPW_init_100 fg_PW_12 ((xnew_ne _ (by omega)).trans b7) rfl ?_
  refine ex_aload_n dPW_init_103 rfl ?_
  refine ex_get dPW_init_104 fg_PW_19 ((xnew_ne _ (by omega)).trans b7) rfl ?_
  refine ex_i2 dPW_init_107 ii_PW_61 cd_Comp_init ar_Comp_init (c_Comp_init (d := d) (a := x + 83) (x := x) (by simp [xnew, y7]) (by simp [xnew, y7])) (by dsimp only; omega) (Nat.le_of_ble_eq_true rfl) (Nat.le_of_ble_eq_true rfl) (Nat.le_of_ble_eq_true rfl) (fun E h9 q9 => by simp at q9) (fun v9 g8 hq => ?_)
  obtain ⟨e, B2, z8, F8⟩ := hq
  cases e
  have w8 : ∀ q : Nat, q < x + 83 → g8.2 q = k7.2 q := fun q hq => by rw [F8 q (by omega), xnew_ne _ (by omega)]
  refine ex_put (fs' := [_, _, _, _, _, _, _, _, _, _]) dPW_init_110 fp_PW_64 ((w8 x (by omega)).trans b7) rfl rfl (Nat.le_of_ble_eq_true rfl) rfl ?_
  have S8 : Sm g8 (xup g8 x (.inr (9, [.ref (x + 1), .ref (x + 4), .ref (x + 17), .ref (x + 40), .ref (x + 42), .ref (x + 44), .ref (x + 79), .ref (x + 81), .ref (x + 83), .null]))) x (x + 1) := Sm.up (by omega) (by omega)
  have t8 : ∀ q : Nat, x < q → q < x + 83 → (xup g8 x (.inr (9, [.ref (x + 1), .ref (x + 4), .ref (x + 17), .ref (x + 40), .ref (x + 42), .ref (x + 44), .ref (x + 79), .ref (x + 81), .ref (x + 83), .null]))).2 q = k7.2 q := fun q h1 h2 => (S8.2 q (by omega)).trans (w8 q h2)
  have r8 : ∀ q : Nat, q < x → (xup g8 x (.inr (9, [.ref (x + 1), .ref (x + 4), .ref (x + 17), .ref (x + 40), .ref (x + 42), .ref (x + 44), .ref (x + 79), .ref (x + 81), .ref (x + 83), .null]))).2 q = h.2 q := fun q hq => (S8.2 q (by omega)).trans ((w8 q (by omega)).trans (r7 q hq))
  have y8 : (xup g8 x (.inr (9, [.ref (x + 1), .ref (x + 4), .ref (x + 17), .ref (x + 40), .ref (x + 42), .ref (x + 44), .ref (x + 79), .ref (x + 81), .ref (x + 83), .null]))).1 = x + 90 := z8
  have b8 : (xup g8 x (.inr (9, [.ref (x + 1), .ref (x + 4), .ref (x + 17), .ref (x + 40), .ref (x + 42), .ref (x + 44), .ref (x + 79), .ref (x + 81), .ref (x + 83), .null]))).2 x = some (.inr (9, [.ref (x + 1), .ref (x + 4), .ref (x + 17), .ref (x + 40), .ref (x + 42), .ref (x + 44), .ref (x + 79), .ref (x + 81), .ref (x + 83), .null])) := xup_self _ _ _
  have A0 := A0.fe (fun q a b => t8 q (by omega) (by omega))
  have A1 := A1.fe (fun q a b => t8 q (by omega) (by omega))
  have A2 := Pt.fe A2 (fun q a b => t8 q (by omega) (by omega))
  have A3 := Pt.fe A3 (fun q a b => t8 q (by omega) (by omega))
  have A4 := A4.fe (fun q a b => t8 q (by omega) (by omega))
  have A5 := A5.at (t8 _ (by omega) (by omega))
  have A6 := A6.fe (fun q a b => t8 q (by omega) (by omega))
  have A7 := A7.fe (fun q a b => t8 q (by omega) (by omega))
  have A8 := A8.fe (fun q a b => t8 q (by omega) (by omega))
  have A9 := A9.fe (fun q a b => t8 q (by omega) (by omega))
  have B0 := B0.fe (fun q a b => t8 q (by omega) (by omega))
  have B1 := B1.fe (fun q a b => t8 q (by omega) (by omega))
  have B2 := B2.eq (fun q a b => S8.2 q (by omega))
  clear w8 t8 S8 F8 z8 y7 b7 r7
  generalize xup g8 x (.inr (9, [.ref (x + 1), .ref (x + 4), .ref (x + 17), .ref (x + 40), .ref (x + 42), .ref (x + 44), .ref (x + 79), .ref (x + 81), .ref (x + 83), .null])) = k8 at A0 A1 A2 A3 A4 A5 A6 A7 A8 A9 B0 B1 B2 y8 b8 r8 ⊢
  refine ex_aload_n dPW_init_113 rfl ?_
  refine ex_new dPW_init_114 nw_PW_68 (Nat.le_of_ble_eq_true rfl) (Nat.le_of_ble_eq_true rfl) ?_
  rw [y8]
  refine ex_dup dPW_init_117 rfl ?_
  refine ex_aload_n dPW_init_118 rfl ?_
  refine ex_get dPW_init_119 fg_PW_12 ((xnew_ne _ (by omega)).trans b8) rfl ?_
  refine ex_aload_n dPW_init_122 rfl ?_
  refine ex_get dPW_init_123 fg_PW_19 ((xnew_ne _ (by omega)).trans b8) rfl ?_
  refine ex_aload_n dPW_init_126 rfl ?_
  refine ex_get dPW_init_127 fg_PW_56 ((xnew_ne _ (by omega)).trans b8) rfl ?_
  refine ex_i3 dPW_init_130 ii_PW_70 cd_Writ_init ar_Writ_init (c_Writ_init (d := d) (a := x + 90) (x := x) (g := x + 81) (by simp [xnew, y8]) (by simp [xnew, y8])) (by dsimp only; omega) (Nat.le_of_ble_eq_true rfl) (Nat.le_of_ble_eq_true rfl) (Nat.le_of_ble_eq_true rfl) (fun E h9 q9 => by simp at q9) (fun v9 g9 hq => ?_)
  obtain ⟨e, B3, z9, F9⟩ := hq
  cases e
  have w9 : ∀ q : Nat, q < x + 90 → g9.2 q = k8.2 q := fun q hq => by rw [F9 q (by omega), xnew_ne _ (by omega)]
  refine ex_put (fs' := [_, _, _, _, _, _, _, _, _, _]) dPW_init_133 fp_PW_73 ((w9 x (by omega)).trans b8) rfl rfl (Nat.le_of_ble_eq_true rfl) rfl ?_
  have S9 : Sm g9 (xup g9 x (.inr (9, [.ref (x + 1), .ref (x + 4), .ref (x + 17), .ref (x + 40), .ref (x + 42), .ref (x + 44), .ref (x + 79), .ref (x + 81), .ref (x + 83), .ref (x + 90)]))) x (x + 1) := Sm.up (by omega) (by omega)
  have t9 : ∀ q : Nat, x < q → q < x + 90 → (xup g9 x (.inr (9, [.ref (x + 1), .ref (x + 4), .ref (x + 17), .ref (x + 40), .ref (x + 42), .ref (x + 44), .ref (x + 79), .ref (x + 81), .ref (x + 83), .ref (x + 90)]))).2 q = k8.2 q := fun q h1 h2 => (S9.2 q (by omega)).trans (w9 q h2)
  have r9 : ∀ q : Nat, q < x → (xup g9 x (.inr (9, [.ref (x + 1), .ref (x + 4), .ref (x + 17), .ref (x + 40), .ref (x + 42), .ref (x + 44), .ref (x + 79), .ref (x + 81), .ref (x + 83), .ref (x + 90)]))).2 q = h.2 q := fun q hq => (S9.2 q (by omega)).trans ((w9 q (by omega)).trans (r8 q hq))
  have y9 : (xup g9 x (.inr (9, [.ref (x + 1), .ref (x + 4), .ref (x + 17), .ref (x + 40), .ref (x + 42), .ref (x + 44), .ref (x + 79), .ref (x + 81), .ref (x + 83), .ref (x + 90)]))).1 = x + 97 := z9
  have b9 : (xup g9 x (.inr (9, [.ref (x + 1), .ref (x + 4), .ref (x + 17), .ref (x + 40), .ref (x + 42), .ref (x + 44), .ref (x + 79), .ref (x + 81), .ref (x + 83), .ref (x + 90)]))).2 x = some (.inr (9, [.ref (x + 1), .ref (x + 4), .ref (x + 17), .ref (x + 40), .ref (x + 42), .ref (x + 44), .ref (x + 79), .ref (x + 81), .ref (x + 83), .ref (x + 90)])) := xup_self _ _ _
  have A0 := A0.fe (fun q a b => t9 q (by omega) (by omega))
  have A1 := A1.fe (fun q a b => t9 q (by omega) (by omega))
  have A2 := Pt.fe A2 (fun q a b => t9 q (by omega) (by omega))
  have A3 := Pt.fe A3 (fun q a b => t9 q (by omega) (by omega))
  have A4 := A4.fe (fun q a b => t9 q (by omega) (by omega))
  have A5 := A5.at (t9 _ (by omega) (by omega))
  have A6 := A6.fe (fun q a b => t9 q (by omega) (by omega))
  have A7 := A7.fe (fun q a b => t9 q (by omega) (by omega))
  have A8 := A8.fe (fun q a b => t9 q (by omega) (by omega))
  have A9 := A9.fe (fun q a b => t9 q (by omega) (by omega))
  have B0 := B0.fe (fun q a b => t9 q (by omega) (by omega))
  have B1 := B1.fe (fun q a b => t9 q (by omega) (by omega))
  have B2 := B2.eq (fun q a b => t9 q (by omega) (by omega))
  have B3 := B3.eq (fun q a b => S9.2 q (by omega))
  clear w9 t9 S9 F9 z9 y8 b8 r8
  generalize xup g9 x (.inr (9, [.ref (x + 1), .ref (x + 4), .ref (x + 17), .ref (x + 40), .ref (x + 42), .ref (x + 44), .ref (x + 79), .ref (x + 81), .ref (x + 83), .ref (x + 90)])) = k9 at A0 A1 A2 A3 A4 A5 A6 A7 A8 A9 B0 B1 B2 B3 y9 b9 r9 ⊢
  refine ex_vret dPW_init_136 rfl (Nat.le_of_ble_eq_true rfl) (Nat.le_of_ble_eq_true rfl) ⟨rfl, ⟨b9, ⟨A0, A1, ⟨A1.2.2.2.2.2.1, A1.2.2.2.2.2.2.1⟩, A2, A3⟩, A4, ⟨([], false), A5, A6, B1, _, B2⟩, A7, A8, A9, B0, B3, ?_⟩, y9, r9⟩
  exact ⟨fun q hq => by simp [xq0] at hq, fun i => by simp [xq0], fun i => by simp [xq0], fun j => ⟨fun i => by simp [xq0], fun i => by simp [xq0]⟩, fun z hz => by simp [xq0, xw0] at hz⟩
end PW0
