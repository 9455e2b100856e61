/-! Arrays of ints that hold natural numbers, the first n of them known. -/
def IA (h : xH) (a N n : Nat) (f : Nat → Nat) : Prop := ∃ g : Nat → Int32, h.2 a = some (cI N g) ∧ ∀ j, j < n → g j = nI (f j)
theorem IA.at {h h' : xH} {a N n : Nat} {f : Nat → Nat} (H : IA h a N n f) (e : h'.2 a = h.2 a) : IA h' a N n f := by
  obtain ⟨g, h1, h2⟩ := H
  exact ⟨g, e.trans h1, h2⟩
theorem IA.to {h : xH} {a N n n' : Nat} {f f' : Nat → Nat} (H : IA h a N n f) (hn : n' ≤ n) (e : ∀ j, j < n' → f j = f' j) : IA h a N n' f' := by
  obtain ⟨g, h1, h2⟩ := H
  exact ⟨g, h1, fun j hj => by rw [h2 j (by omega), e j hj]⟩
theorem IA.st {h : xH} {a N n i x : Nat} {f : Nat → Nat} {g : Nat → Int32} (h2 : ∀ j, j < n → g j = nI (f j)) : IA (xup h a (cI N (upd g i (nI x)))) a N n (va_up f i x) := by
  refine ⟨_, xup_self _ _ _, fun j hj => ?_⟩
  by_cases e : j = i
  · subst e; rw [pk_us, va_up_self]
  · rw [pk_un e, va_up_ne _ _ e, h2 j hj]
/-- one more behind the known ones -/
theorem IA.snoc {h : xH} {a N n x : Nat} {f : Nat → Nat} {g : Nat → Int32} (h2 : ∀ j, j < n → g j = nI (f j)) : IA (xup h a (cI N (upd g n (nI x)))) a N (n + 1) (va_up f n x) := by
  refine ⟨_, xup_self _ _ _, fun j hj => ?_⟩
  by_cases e : j = n
  · subst e; rw [pk_us, va_up_self]
  · rw [pk_un e, va_up_ne _ _ e, h2 j (by omega)]
/-! sets of rules -/
def msk (p : Nat → Bool) : Nat → Nat
  | 0 => 0
  | n + 1 => msk p n ||| (if p n then 1 <<< n else 0)
theorem msk_lt {p : Nat → Bool} : ∀ n : Nat, msk p n < 2 ^ n
  | 0 => by simp [msk]
  | n + 1 => by
    rw [msk]
    refine Nat.or_lt_two_pow (Nat.lt_trans (msk_lt n) (by rw [Nat.pow_succ]; have := Nat.two_pow_pos n; omega)) ?_
    split
    · rw [Nat.shiftLeft_eq, Nat.one_mul, Nat.pow_succ]; have := Nat.two_pow_pos n; omega
    · exact Nat.two_pow_pos _
theorem msk_lt16 {p : Nat → Bool} {n : Nat} (h : n ≤ 4) : msk p n < 16 := Nat.lt_of_lt_of_le (msk_lt n) (Nat.pow_le_pow_right (by omega) h : 2 ^ n ≤ 2 ^ 4)
theorem msk_bit {p : Nat → Bool} {i : Nat} : ∀ n : Nat, (msk p n).testBit i = (decide (i < n) && p i)
  | 0 => by simp [msk]
  | n + 1 => by
    rw [msk, Nat.testBit_or, msk_bit n]
    by_cases e : i = n
    · subst e
      cases hp : p i
      · simp
      · simp [Nat.shiftLeft_eq]
    · cases hp : p n
      · simp [show (i < n + 1) ↔ i < n by omega]
      · simp [Nat.shiftLeft_eq, Nat.testBit_two_pow, show ¬ n = i by omega, show (i < n + 1) ↔ i < n by omega]
def rasks (k : Nat) (same : Bool) : Bool := same && (k == 0 || k == 2)
def rbars (k : Nat) (same rival : Bool) : Bool := (rival && (k == 1 || k == 2)) || (same && k == 3)
def rask (rs : List (Nat × Nat)) (j : Nat) (r : Nat) : Bool := rasks (rs.getD r (0, 0)).1 (j == (rs.getD r (0, 0)).2)
def rrival (rs ps : List (Nat × Nat)) (j r : Nat) : Bool := !(j == (rs.getD r (0, 0)).2) && (ps.getD j (0, 0)).1 == (ps.getD (rs.getD r (0, 0)).2 (0, 0)).1
def rbar (rs ps : List (Nat × Nat)) (j r : Nat) : Bool := rbars (rs.getD r (0, 0)).1 (j == (rs.getD r (0, 0)).2) (rrival rs ps j r)
def rgoal (r : Nat) : Nat → Nat
  | 0 => 0
  | n + 1 => rgoal r n ||| pgoal (2 * r + n)
theorem rgoal_lt {r : Nat} (hr : r < 4) : ∀ n : Nat, n ≤ 2 → rgoal r n < 2 ^ 24
  | 0, _ => by simp [rgoal]
  | n + 1, h => by
    rw [rgoal]
    exact Nat.or_lt_two_pow (rgoal_lt hr n (by omega)) (pgoal_lt (by omega))
def rhold (cx : Nat → Nat) (m n : Nat) : Nat := msk (fun r => decide (m &&& rgoal r (cx r) ≠ 0)) n
def rbroken (rs ps : List (Nat × Nat)) (cx : Nat → Nat) (p sb sh : Nat) : Nat := clr (msk (rask rs p) rs.length) (rhold cx (sb &&& sh) rs.length) ||| (msk (rbar rs ps p) rs.length &&& rhold cx (sb &&& sh) rs.length)
theorem rbroken_lt {rs ps : List (Nat × Nat)} {cx : Nat → Nat} {p sb sh : Nat} (h : rs.length ≤ 4) : rbroken rs ps cx p sb sh < 2 ^ 4 := Nat.or_lt_two_pow (clr_lt (msk_lt16 h)) (and_ltl (msk_lt16 h))
/-! Rules. Ru h a rs cx: at a the object, Patterns at a + 1 and a + 4, arrays from a + 7 on; Sd: what settle leaves. -/
abbrev cRule (a c : Nat) : xE := .inr (4, [.ref (a + 1), .ref (a + 4), .ref (a + 7), .ref (a + 8), .ref (a + 9), .ref (a + 10), .ref (a + 11), .ref (a + 12), .int (nI c)])
def Ru (h : xH) (a : Nat) (rs : List (Nat × Nat)) (cx : Nat → Nat) : Prop := h.2 a = some (cRule a rs.length) ∧ IA h (a + 7) 4 rs.length (fun j => (rs.getD j (0, 0)).1) ∧ IA h (a + 8) 4 rs.length (fun j => (rs.getD j (0, 0)).2) ∧ IA h (a + 9) 4 4 cx ∧ IA h (a + 10) 4 4 (fun r => rgoal r (cx r)) ∧ IA h (a + 11) 10 0 (fun _ => 0) ∧ IA h (a + 12) 10 0 (fun _ => 0) ∧ rs.length ≤ 4 ∧ (∀ j, j < 4 → cx j ≤ 2) ∧ ∀ q ∈ rs, q.1 < 4 ∧ q.2 < 10
def Sd (h : xH) (a : Nat) (rs ps : List (Nat × Nat)) : Prop := IA h (a + 11) 10 ps.length (fun j => msk (rask rs j) rs.length) ∧ IA h (a + 12) 10 ps.length (fun j => msk (rbar rs ps j) rs.length)
theorem Ru.sm {h h' : xH} {a lo hi : Nat} {rs : List (Nat × Nat)} {cx : Nat → Nat} (H : Ru h a rs cx) (hs : Sm h h' lo hi) (hd : a + 13 ≤ lo ∨ hi ≤ a ∨ (a + 1 ≤ lo ∧ hi ≤ a + 7)) : Ru h' a rs cx := by
  obtain ⟨h1, h2, h3, h4, h5, h6, h7, h8⟩ := H
  exact ⟨(hs.2 _ (by omega)).trans h1, h2.at (hs.2 _ (by omega)), h3.at (hs.2 _ (by omega)), h4.at (hs.2 _ (by omega)), h5.at (hs.2 _ (by omega)), h6.at (hs.2 _ (by omega)), h7.at (hs.2 _ (by omega)), h8⟩
theorem Sd.sm {h h' : xH} {a lo hi : Nat} {rs ps : List (Nat × Nat)} (H : Sd h a rs ps) (hs : Sm h h' lo hi) (hd : a + 13 ≤ lo ∨ hi ≤ a + 11) : Sd h' a rs ps := ⟨H.1.at (hs.2 _ (by omega)), H.2.at (hs.2 _ (by omega))⟩
section RULE
variable {l : Launch} {G : xG} {d : Nat} {h : xH} {a : Nat} {rs ps : List (Nat × Nat)} {cx : Nat → Nat}
theorem c_Rule_count (H : Ru h a rs cx) : xMet l G mRule_count d 0 0 [.ref a] h (fun o h' => o = .inl (some (.int (nI rs.length))) ∧ h' = h) := by
  obtain ⟨h1, ⟨fk, h2, e2⟩, ⟨fp, h3, e3⟩, ⟨fc, h4, e4⟩, ⟨fg, h5, e5⟩, ⟨fa, h6, e6⟩, ⟨fb, h7, e7⟩, h8, h9, h10⟩ := H
  refine xMet_of (L := [_]) (by decide) (Nat.le_of_ble_eq_true rfl) rfl ?_
  refine ex_aload_n dRule_count_0 rfl ?_
  refine ex_get dRule_count_1 fg_Rule_42 h1 rfl ?_
  exact ex_iret dRule_count_4 rfl (Nat.le_refl _) (Nat.le_refl _) ⟨rfl, rfl⟩
theorem c_Rule_contextsOf {r : Nat} (hr : r < 4) (H : Ru h a rs cx) : xMet l G mRule_contextsOf d 0 0 [.ref a, .int (nI r)] h (fun o h' => o = .inl (some (.int (nI (cx r)))) ∧ h' = h) := by
  obtain ⟨h1, ⟨fk, h2, e2⟩, ⟨fp, h3, e3⟩, ⟨fc, h4, e4⟩, ⟨fg, h5, e5⟩, ⟨fa, h6, e6⟩, ⟨fb, h7, e7⟩, h8, h9, h10⟩ := H
  refine xMet_of (L := [_, _]) (by decide) (Nat.le_of_ble_eq_true rfl) rfl ?_
  refine ex_aload_n dRule_contextsOf_0 rfl ?_
  refine ex_get dRule_contextsOf_1 fg_Rule_30 h1 rfl ?_
  refine ex_iload_n dRule_contextsOf_4 rfl ?_
  refine ex_iaload dRule_contextsOf_5 h4 rfl hr (by omega) ?_
  exact ex_iret dRule_contextsOf_6 rfl (Nat.le_refl _) (Nat.le_refl _) ⟨by rw [e4 r hr], rfl⟩
theorem c_Rule_latestContextOf {r c n : Nat} {fc : Nat → Int32} (hr : r < 4) (h1 : h.2 a = some (cRule a n)) (h4 : h.2 (a + 9) = some (cI 4 fc)) (e4 : fc r = nI c) (hc : 0 < c) : xMet l G mRule_latestContextOf d 0 0 [.ref a, .int (nI r)] h (fun o h' => o = .inl (some (.int (nI (2 * r + c - 1)))) ∧ h' = h) := by
  refine xMet_of (L := [_, _]) (by decide) (Nat.le_of_ble_eq_true rfl) rfl ?_
  refine ex_iconst (v := nI 2) dRule_latestContextOf_0 (by decide) ?_
  refine ex_iload_n dRule_latestContextOf_1 rfl ?_
  refine ex_imul dRule_latestContextOf_2 ?_
  refine ex_aload_n dRule_latestContextOf_3 rfl ?_
  refine ex_get dRule_latestContextOf_4 fg_Rule_30 h1 rfl ?_
  refine ex_iload_n dRule_latestContextOf_7 rfl ?_
  refine ex_iaload dRule_latestContextOf_8 h4 rfl hr (by omega) ?_
  rw [pk_mul, e4]
  refine ex_iadd dRule_latestContextOf_9 ?_
  rw [nI_add]
  refine ex_iconst (v := nI 1) dRule_latestContextOf_10 (by decide) ?_
  refine ex_isub dRule_latestContextOf_11 ?_
  rw [pk_sub (by omega)]
  exact ex_iret dRule_latestContextOf_12 rfl (Nat.le_refl _) (Nat.le_refl _) ⟨rfl, rfl⟩
theorem c_Rule_add {k p : Nat} (hk : k < 4) (hp : p < 10) (hl : rs.length < 4) (H : Ru h a rs cx) : xMet l G mRule_add d 0 0 [.ref a, .int (nI k), .int (nI p)] h (fun o h' => o = .inl (some (.int (nI rs.length))) ∧ Ru h' a (rs ++ [(k, p)]) cx ∧ Sm h h' a (a + 13) ∧ ∀ q, a < q → q < a + 7 → h'.2 q = h.2 q) := by
  obtain ⟨h1, ⟨fk, h2, e2⟩, ⟨fp, h3, e3⟩, ⟨fc, h4, e4⟩, ⟨fg, h5, e5⟩, ⟨fa, h6, e6⟩, ⟨fb, h7, e7⟩, h8, h9, h10⟩ := H
  have d1 : (xup h (a + 7) (cI 4 (upd fk rs.length (nI k)))).2 a = some (cRule a rs.length) := by rw [xup_ne _ _ (by omega)]; exact h1
  have d2 : (xup h (a + 7) (cI 4 (upd fk rs.length (nI k)))).2 (a + 8) = some (cI 4 fp) := by rw [xup_ne _ _ (by omega)]; exact h3
  have d3 : (xup (xup h (a + 7) (cI 4 (upd fk rs.length (nI k)))) (a + 8) (cI 4 (upd fp rs.length (nI p)))).2 a = some (cRule a rs.length) := by rw [xup_ne _ _ (by omega)]; exact d1
  refine xMet_of (L := [_, _, _]) (by decide) (Nat.le_of_ble_eq_true rfl) rfl ?_
  refine ex_aload_n dRule_add_0 rfl ?_
  refine ex_get dRule_add_1 fg_Rule_23 h1 rfl ?_
  refine ex_aload_n dRule_add_4 rfl ?_
  refine ex_get dRule_add_5 fg_Rule_42 h1 rfl ?_
  refine ex_iload_n dRule_add_8 rfl ?_
  refine ex_iastore dRule_add_9 h2 rfl hl (by omega) ?_
  refine ex_aload_n dRule_add_10 rfl ?_
  refine ex_get dRule_add_11 fg_Rule_27 d1 rfl ?_
  refine ex_aload_n dRule_add_14 rfl ?_
  refine ex_get dRule_add_15 fg_Rule_42 d1 rfl ?_
  refine ex_iload_n dRule_add_18 rfl ?_
  refine ex_iastore dRule_add_19 d2 rfl hl (by omega) ?_
  refine ex_aload_n dRule_add_20 rfl ?_
  refine ex_dup dRule_add_21 rfl ?_
  refine ex_get dRule_add_22 fg_Rule_42 d3 rfl ?_
  refine ex_iconst (v := nI 1) dRule_add_25 (by decide) ?_
  refine ex_iadd dRule_add_26 ?_
  rw [show nI rs.length + nI 1 = nI (rs.length + 1) from nI_add _ _]
  refine ex_put (fs' := [_, _, _, _, _, _, _, _, _]) dRule_add_27 (fp_Rule_42 _) d3 rfl rfl (Nat.le_of_ble_eq_true rfl) rfl ?_
  refine ex_aload_n dRule_add_30 rfl ?_
  refine ex_get dRule_add_31 fg_Rule_42 (xup_self _ _ _) rfl ?_
  refine ex_iconst (v := nI 1) dRule_add_34 (by decide) ?_
  refine ex_isub dRule_add_35 ?_
  refine ex_iret dRule_add_36 rfl (Nat.le_refl _) (Nat.le_refl _) ⟨by rw [show nI (rs.length + 1) - nI 1 = nI rs.length from by rw [pk_sub (by omega)]; rfl], ⟨?_, ?_, ?_, ?_, ?_, ?_, ?_, ?_, h9, ?_⟩, ?_, ?_⟩
  · rw [xup_self]; simp
  · refine ((IA.snoc e2).at (h := xup h (a + 7) (cI 4 (upd fk rs.length (nI k)))) (by rw [xup_ne _ _ (by omega), xup_ne _ _ (by omega)])).to (by simp) (fun j hj => ?_)
    by_cases e : j = rs.length
    · subst e; rw [va_up_self]; simp
    · have hj' : j < rs.length := by simp at hj; omega
      rw [va_up_ne _ _ e]; simp [List.getElem?_append_left hj']
  · refine ((IA.snoc e3).at (h := xup (xup h (a + 7) (cI 4 (upd fk rs.length (nI k)))) (a + 8) (cI 4 (upd fp rs.length (nI p)))) (by rw [xup_ne _ _ (by omega)])).to (by simp) (fun j hj => ?_)
    by_cases e : j = rs.length
    · subst e; rw [va_up_self]; simp
    · have hj' : j < rs.length := by simp at hj; omega
      rw [va_up_ne _ _ e]; simp [List.getElem?_append_left hj']
  · exact ⟨fc, by rw [xup_ne _ _ (by omega), xup_ne _ _ (by omega), xup_ne _ _ (by omega)]; exact h4, e4⟩
  · exact ⟨fg, by rw [xup_ne _ _ (by omega), xup_ne _ _ (by omega), xup_ne _ _ (by omega)]; exact h5, e5⟩
  · exact ⟨fa, by rw [xup_ne _ _ (by omega), xup_ne _ _ (by omega), xup_ne _ _ (by omega)]; exact h6, e6⟩
  · exact ⟨fb, by rw [xup_ne _ _ (by omega), xup_ne _ _ (by omega), xup_ne _ _ (by omega)]; exact h7, e7⟩
  · simp; omega
  · intro q hq
    rcases List.mem_append.mp hq with q1 | q1
    · exact h10 q q1
    · rw [List.mem_singleton.mp q1]; exact ⟨hk, hp⟩
  · exact ((Sm.up (by omega) (by omega)).trans (Sm.up (by omega) (by omega))).trans (Sm.up (by omega) (by omega))
  · intro q hq1 hq2
    rw [xup_ne _ _ (by omega), xup_ne _ _ (by omega), xup_ne _ _ (by omega)]
theorem c_Rule_addContext {r : Nat} {t1 t2 b1 b2 : Bool} {sz1 hv1 sz2 hv2 : Nat → Nat} {st1 ss1 ls1 st2 ss2 ls2 : Nat} (hr : r < 4) (hx : cx r < 2) (H : Ru h a rs cx) (H1 : Pt h (a + 1) b1 sz1 hv1 st1 ss1 ls1) (H2 : Pt h (a + 4) b2 sz2 hv2 st2 ss2 ls2) : xMet l G mRule_addContext (d + 2) 0 0 [.ref a, .int (nI r), .int (bI t1), .int (bI t2)] h (fun o h' => o = .inl (some (.int (nI (cx r + 1)))) ∧ Ru h' a rs (va_up cx r (cx r + 1)) ∧ Pt h' (a + 1) b1 sz1 hv1 st1 (ss1 ||| pgoal (2 * r + cx r)) (if t1 then ls1 else ls1 ||| pgoal (2 * r + cx r)) ∧ Pt h' (a + 4) b2 sz2 hv2 st2 (ss2 ||| pgoal (2 * r + cx r)) (if t2 then ls2 else ls2 ||| pgoal (2 * r + cx r)) ∧ Sm h h' a (a + 11)) := by
  obtain ⟨h1, ⟨fk, h2, e2⟩, ⟨fp, h3, e3⟩, ⟨fc, h4, e4⟩, ⟨fg, h5, e5⟩, ⟨fa, h6, e6⟩, ⟨fb, h7, e7⟩, h8, h9, h10⟩ := H
  have d1 : (xup h (a + 9) (cI 4 (upd fc r (nI (cx r + 1))))).2 a = some (cRule a rs.length) := by rw [xup_ne _ _ (by omega)]; exact h1
  have S1 : Sm h (xup h (a + 9) (cI 4 (upd fc r (nI (cx r + 1))))) (a + 9) (a + 10) := Sm.up (by omega) (by omega)
  have H1' := H1.sm S1 (by omega)
  have H2' := H2.sm S1 (by omega)
  refine xMet_of (L := [_, _, _, _, _]) (by decide) (Nat.le_of_ble_eq_true rfl) rfl ?_
  refine ex_aload_n dRule_addContext_0 rfl ?_
  refine ex_get dRule_addContext_1 fg_Rule_30 h1 rfl ?_
  refine ex_iload_n dRule_addContext_4 rfl ?_
  refine ex_dup2 dRule_addContext_5 rfl rfl ?_
  refine ex_iaload dRule_addContext_6 h4 rfl hr (by omega) ?_
  refine ex_iconst (v := nI 1) dRule_addContext_7 (by decide) ?_
  refine ex_iadd dRule_addContext_8 ?_
  rw [e4 r hr, show nI (cx r) + nI 1 = nI (cx r + 1) from nI_add _ _]
  refine ex_iastore dRule_addContext_9 h4 rfl hr (by omega) ?_
  refine ex_aload_n dRule_addContext_10 rfl ?_
  refine ex_iload_n dRule_addContext_11 rfl ?_
  refine ex_v1 dRule_addContext_12 iv_Rule_46 cd_Rule_latestContextOf ar_Rule_latestContextOf d1 (c_Rule_latestContextOf (d := d + 1) (c := cx r + 1) hr d1 (xup_self _ _ _) pk_us (by omega)) (by dsimp only; omega) (Nat.le_of_ble_eq_true rfl) (Nat.le_refl _) (Nat.le_refl _) (fun E h9 q9 => by simp at q9) (fun v9 hp9 hq => ?_)
  obtain ⟨e, e1⟩ := hq
  cases e
  rw [e1, show 2 * r + (cx r + 1) - 1 = 2 * r + cx r by omega]
  refine ex_istore (L' := [_, _, _, _, _]) dRule_addContext_15 (by decide) rfl ?_
  refine ex_aload_n dRule_addContext_17 rfl ?_
  refine ex_get dRule_addContext_18 fg_Rule_14 d1 rfl ?_
  refine ex_iload dRule_addContext_21 rfl ?_
  refine ex_iload_n dRule_addContext_23 rfl ?_
  have H1c := H1'
  obtain ⟨f1, g1, p1, -⟩ := H1c
  refine ex_v2 dRule_addContext_24 iv_Rule_50 cd_Patt_open ar_Patt_open p1 (c_Patt_open (d := d) (c := 2 * r + cx r) (t := t1) (by omega) H1') (by dsimp only; omega) (Nat.le_of_ble_eq_true rfl) (Nat.le_refl _) (Nat.le_refl _) (fun E h9 q9 => by simp at q9) (fun v9 h8a hq => ?_)
  obtain ⟨e, P1, S2⟩ := hq
  cases e
  have d2 : h8a.2 a = some (cRule a rs.length) := (S2.2 a (by omega)).trans d1
  have H2s := H2'.sm S2 (by omega)
  have H2c := H2s
  obtain ⟨f2, g2, p2, -⟩ := H2c
  refine ex_aload_n dRule_addContext_27 rfl ?_
  refine ex_get dRule_addContext_28 fg_Rule_20 d2 rfl ?_
  refine ex_iload dRule_addContext_31 rfl ?_
  refine ex_iload_n dRule_addContext_33 rfl ?_
  refine ex_v2 dRule_addContext_34 iv_Rule_50 cd_Patt_open ar_Patt_open p2 (c_Patt_open (d := d) (c := 2 * r + cx r) (t := t2) (by omega) H2s) (by dsimp only; omega) (Nat.le_of_ble_eq_true rfl) (Nat.le_refl _) (Nat.le_refl _) (fun E h9 q9 => by simp at q9) (fun v8 h8b hq => ?_)
  obtain ⟨e, P2, S3⟩ := hq
  cases e
  have P1' := P1.sm S3 (by omega)
  have d3 : h8b.2 a = some (cRule a rs.length) := (S3.2 a (by omega)).trans d2
  have d5 : h8b.2 (a + 10) = some (cI 4 fg) := (S3.2 _ (by omega)).trans ((S2.2 _ (by omega)).trans (by rw [xup_ne _ _ (by omega)]; exact h5))
  have d4 : h8b.2 (a + 9) = some (cI 4 (upd fc r (nI (cx r + 1)))) := (S3.2 _ (by omega)).trans ((S2.2 _ (by omega)).trans (xup_self _ _ _))
  refine ex_aload_n dRule_addContext_37 rfl ?_
  refine ex_get dRule_addContext_38 fg_Rule_33 d3 rfl ?_
  refine ex_iload_n dRule_addContext_41 rfl ?_
  refine ex_dup2 dRule_addContext_42 rfl rfl ?_
  refine ex_iaload dRule_addContext_43 d5 rfl hr (by omega) ?_
  refine ex_iload dRule_addContext_44 rfl ?_
  rw [e5 r hr]
  refine ex_s1 dRule_addContext_46 is_Rule_54 cd_Patt_goalOf ar_Patt_goalOf (c_Patt_goalOf (d := d) (c := 2 * r + cx r) (by omega)) (by dsimp only; omega) (Nat.le_of_ble_eq_true rfl) (Nat.le_refl _) (Nat.le_refl _) (fun E h9 q9 => by simp at q9) (fun v7 h8c hq => ?_)
  obtain ⟨e, e1⟩ := hq
  cases e
  rw [e1]
  refine ex_ior dRule_addContext_49 ?_
  rw [nb_or]
  have d6 : (xup h8b (a + 10) (cI 4 (upd fg r (nI (rgoal r (cx r) ||| pgoal (2 * r + cx r)))))).2 a = some (cRule a rs.length) := by rw [xup_ne _ _ (by omega)]; exact d3
  have d7 : (xup h8b (a + 10) (cI 4 (upd fg r (nI (rgoal r (cx r) ||| pgoal (2 * r + cx r)))))).2 (a + 9) = some (cI 4 (upd fc r (nI (cx r + 1)))) := by rw [xup_ne _ _ (by omega)]; exact d4
  have S4 : Sm h8b (xup h8b (a + 10) (cI 4 (upd fg r (nI (rgoal r (cx r) ||| pgoal (2 * r + cx r)))))) (a + 10) (a + 11) := Sm.up (by omega) (by omega)
  have SS := ((S1.wide (lo' := a) (hi' := a + 11) (by omega) (by omega)).trans (S2.wide (by omega) (by omega))).trans ((S3.wide (by omega) (by omega)).trans (S4.wide (by omega) (by omega)))
  have hF : ∀ q, (q = a + 7 ∨ q = a + 8 ∨ q = a + 11 ∨ q = a + 12) → (xup h8b (a + 10) (cI 4 (upd fg r (nI (rgoal r (cx r) ||| pgoal (2 * r + cx r)))))).2 q = h.2 q := fun q hq => (S4.2 q (by omega)).trans ((S3.2 q (by omega)).trans ((S2.2 q (by omega)).trans (S1.2 q (by omega))))
  refine ex_iastore dRule_addContext_50 d5 rfl hr (by omega) ?_
  refine ex_aload_n dRule_addContext_51 rfl ?_
  refine ex_get dRule_addContext_52 fg_Rule_30 d6 rfl ?_
  refine ex_iload_n dRule_addContext_55 rfl ?_
  refine ex_iaload dRule_addContext_56 d7 rfl hr (by omega) ?_
  refine ex_iret dRule_addContext_57 rfl (Nat.le_refl _) (Nat.le_refl _) ⟨by rw [pk_us], ⟨d6, ⟨fk, (hF _ (by omega)).trans h2, e2⟩, ⟨fp, (hF _ (by omega)).trans h3, e3⟩, ⟨_, d7, fun j hj => ?_⟩, ⟨_, xup_self _ _ _, fun j hj => ?_⟩, ⟨fa, (hF _ (by omega)).trans h6, e6⟩, ⟨fb, (hF _ (by omega)).trans h7, e7⟩, h8, fun j hj => ?_, h10⟩, P1'.sm S4 (by omega), P2.sm S4 (by omega), SS⟩
  · by_cases e : j = r
    · subst e; rw [pk_us, va_up_self]
    · rw [pk_un e, va_up_ne _ _ e, e4 j hj]
  · by_cases e : j = r
    · subst e; dsimp only; rw [pk_us, va_up_self, rgoal]
    · dsimp only; rw [pk_un e, va_up_ne _ _ e, e5 j hj]
  · by_cases e : j = r
    · subst e; rw [va_up_self]; omega
    · rw [va_up_ne _ _ e]; exact h9 j hj
theorem c_Rule_asks {k : Nat} {s : Bool} (hk : k < 4) : xMet l G mRule_asks d 0 0 [.int (nI k), .int (bI s)] h (fun o h' => o = .inl (some (.int (bI (rasks k s)))) ∧ h' = h) := by
  have no : rasks k s = false → Ex (l, G, d, 0, 0, h, fun o h' => o = .inl (some (.int (bI (rasks k s)))) ∧ h' = h) mRule_asks 17 [some (.int (nI k)), some (.int (bI s))] [] h 0 0 := by
    intro e
    refine ex_iconst (v := nI 0) dRule_asks_17 (by decide) ?_
    exact ex_zret dRule_asks_18 rfl (by decide) (Nat.le_refl _) (Nat.le_refl _) ⟨by rw [e]; rfl, rfl⟩
  have yes : rasks k s = true → Ex (l, G, d, 0, 0, h, fun o h' => o = .inl (some (.int (bI (rasks k s)))) ∧ h' = h) mRule_asks 13 [some (.int (nI k)), some (.int (bI s))] [] h 0 0 := by
    intro e
    refine ex_iconst (v := nI 1) dRule_asks_13 (by decide) ?_
    refine ex_goto (tgt := 18) dRule_asks_14 (by decide) ?_
    exact ex_zret dRule_asks_18 rfl (by decide) (Nat.le_refl _) (Nat.le_refl _) ⟨by rw [e]; rfl, rfl⟩
  refine xMet_of (L := [_, _]) (by decide) (Nat.le_of_ble_eq_true rfl) rfl ?_
  refine ex_iload_n dRule_asks_0 rfl ?_
  refine ex_if_eq (tgt := 17) dRule_asks_1 (by decide) (fun hc => ?_) (fun hc => ?_)
  · exact no (by rw [bI_0.mp hc]; rfl)
  have hs : s = true := by cases s; exact absurd rfl hc; rfl
  subst hs
  refine ex_iload_n dRule_asks_4 rfl ?_
  refine ex_if_eq (tgt := 13) dRule_asks_5 (by decide) (fun hc2 => ?_) (fun hc2 => ?_)
  · exact yes (by rw [(nI_eq (b := 0) (by omega) (by omega)).mp hc2]; rfl)
  refine ex_iload_n dRule_asks_8 rfl ?_
  refine ex_iconst (v := nI 2) dRule_asks_9 (by decide) ?_
  refine ex_icmp_ne (tgt := 17) dRule_asks_10 (by decide) (fun hc3 => ?_) (fun hc3 => ?_)
  · refine no ?_
    have q0 : k ≠ 0 := fun q => hc2 (by rw [q]; rfl)
    have q2 : k ≠ 2 := fun q => hc3 (by rw [q])
    simp [rasks, q0, q2]
  exact yes (by rw [(nI_eq (by omega) (by omega)).mp hc3]; rfl)
theorem c_Rule_bars {k : Nat} {s v : Bool} (hk : k < 4) : xMet l G mRule_bars d 0 0 [.int (nI k), .int (bI s), .int (bI v)] h (fun o h' => o = .inl (some (.int (bI (rbars k s v)))) ∧ h' = h) := by
  have no : rbars k s v = false → Ex (l, G, d, 0, 0, h, fun o h' => o = .inl (some (.int (bI (rbars k s v)))) ∧ h' = h) mRule_bars 27 [some (.int (nI k)), some (.int (bI s)), some (.int (bI v))] [] h 0 0 := by
    intro e
    refine ex_iconst (v := nI 0) dRule_bars_27 (by decide) ?_
    exact ex_zret dRule_bars_28 rfl (by decide) (Nat.le_refl _) (Nat.le_refl _) ⟨by rw [e]; rfl, rfl⟩
  have yes : rbars k s v = true → Ex (l, G, d, 0, 0, h, fun o h' => o = .inl (some (.int (bI (rbars k s v)))) ∧ h' = h) mRule_bars 23 [some (.int (nI k)), some (.int (bI s)), some (.int (bI v))] [] h 0 0 := by
    intro e
    refine ex_iconst (v := nI 1) dRule_bars_23 (by decide) ?_
    refine ex_goto (tgt := 28) dRule_bars_24 (by decide) ?_
    exact ex_zret dRule_bars_28 rfl (by decide) (Nat.le_refl _) (Nat.le_refl _) ⟨by rw [e]; rfl, rfl⟩
  have mid : (v && (k == 1 || k == 2)) = false → Ex (l, G, d, 0, 0, h, fun o h' => o = .inl (some (.int (bI (rbars k s v)))) ∧ h' = h) mRule_bars 14 [some (.int (nI k)), some (.int (bI s)), some (.int (bI v))] [] h 0 0 := by
    intro e
    refine ex_iload_n dRule_bars_14 rfl ?_
    refine ex_if_eq (tgt := 27) dRule_bars_15 (by decide) (fun hc => ?_) (fun hc => ?_)
    · exact no (by unfold rbars; rw [e, bI_0.mp hc]; rfl)
    have hs : s = true := by cases s; exact absurd rfl hc; rfl
    refine ex_iload_n dRule_bars_18 rfl ?_
    refine ex_iconst (v := nI 3) dRule_bars_19 (by decide) ?_
    refine ex_icmp_ne (tgt := 27) dRule_bars_20 (by decide) (fun hc2 => ?_) (fun hc2 => ?_)
    · have q3 : k ≠ 3 := fun q => hc2 (by rw [q])
      exact no (by unfold rbars; rw [e]; simp [q3])
    · have q3 : k = 3 := (nI_eq (by omega) (by omega)).mp hc2
      exact yes (by unfold rbars; rw [e, hs, q3]; rfl)
  refine xMet_of (L := [_, _, _]) (by decide) (Nat.le_of_ble_eq_true rfl) rfl ?_
  refine ex_iload_n dRule_bars_0 rfl ?_
  refine ex_if_eq (tgt := 14) dRule_bars_1 (by decide) (fun hc => ?_) (fun hc => ?_)
  · exact mid (by rw [bI_0.mp hc]; rfl)
  have hv : v = true := by cases v; exact absurd rfl hc; rfl
  refine ex_iload_n dRule_bars_4 rfl ?_
  refine ex_iconst (v := nI 1) dRule_bars_5 (by decide) ?_
  refine ex_icmp_eq (tgt := 23) dRule_bars_6 (by decide) (fun hc2 => ?_) (fun hc2 => ?_)
  · exact yes (by unfold rbars; rw [hv, (nI_eq (b := 1) (by omega) (by omega)).mp hc2]; rfl)
  refine ex_iload_n dRule_bars_9 rfl ?_
  refine ex_iconst (v := nI 2) dRule_bars_10 (by decide) ?_
  refine ex_icmp_eq (tgt := 23) dRule_bars_11 (by decide) (fun hc3 => ?_) (fun hc3 => ?_)
  · exact yes (by unfold rbars; rw [hv, (nI_eq (b := 2) (by omega) (by omega)).mp hc3]; rfl)
  have q1 : k ≠ 1 := fun q => hc2 (by rw [q])
  have q2 : k ≠ 2 := fun q => hc3 (by rw [q])
  exact mid (by simp [q1, q2])
theorem c_Rule_brokenBy {p sb sh : Nat} (hp : p < ps.length) (hps : ps.length ≤ 10) (H : Ru h a rs cx) (HS : Sd h a rs ps) : xMet l G mRule_brokenBy d 0 0 [.ref a, .int (nI p), .int (nI sb), .int (nI sh)] h (fun o h' => o = .inl (some (.int (nI (rbroken rs ps cx p sb sh)))) ∧ h' = h) := by
  obtain ⟨h1, ⟨fk, h2, e2⟩, ⟨fp, h3, e3⟩, ⟨fc, h4, e4⟩, ⟨fg, h5, e5⟩, ⟨fa, h6, e6⟩, ⟨fb, h7, e7⟩, h8, h9, h10⟩ := H
  obtain ⟨⟨fa', h6', e6'⟩, ⟨fb', h7', e7'⟩⟩ := HS
  have loop : ∀ (j i : Nat), i + j = rs.length → Ex (l, G, d, 0, 0, h, fun o h' => o = .inl (some (.int (nI (rbroken rs ps cx p sb sh)))) ∧ h' = h) mRule_brokenBy 11 [some (.ref a), some (.int (nI p)), some (.int (nI sb)), some (.int (nI sh)), some (.int (nI (sb &&& sh))), some (.int (nI (rhold cx (sb &&& sh) i))), some (.int (nI i))] [] h 0 0 := by
    intro j
    induction j with
    | zero =>
      intro i hij
      have e : i = rs.length := by omega
      subst e
      refine ex_iload dRule_brokenBy_11 rfl ?_
      refine ex_aload_n dRule_brokenBy_13 rfl ?_
      refine ex_get dRule_brokenBy_14 fg_Rule_42 h1 rfl ?_
      refine ex_icmp_ge (tgt := 48) dRule_brokenBy_17 (by decide) (fun hc => ?_) (fun hc => ?_)
      · refine ex_aload_n dRule_brokenBy_48 rfl ?_
        refine ex_get dRule_brokenBy_49 fg_Rule_36 h1 rfl ?_
        refine ex_iload_n dRule_brokenBy_52 rfl ?_
        refine ex_iaload dRule_brokenBy_53 h6' rfl (by omega) (by omega) ?_
        refine ex_iload dRule_brokenBy_54 rfl ?_
        refine ex_iconst (v := -1) dRule_brokenBy_56 (by decide) ?_
        refine ex_ixor dRule_brokenBy_57 ?_
        refine ex_iand dRule_brokenBy_58 ?_
        rw [e6' p hp, nb_clr]
        refine ex_aload_n dRule_brokenBy_59 rfl ?_
        refine ex_get dRule_brokenBy_60 fg_Rule_39 h1 rfl ?_
        refine ex_iload_n dRule_brokenBy_63 rfl ?_
        refine ex_iaload dRule_brokenBy_64 h7' rfl (by omega) (by omega) ?_
        refine ex_iload dRule_brokenBy_65 rfl ?_
        refine ex_iand dRule_brokenBy_67 ?_
        rw [e7' p hp, nb_and]
        refine ex_ior dRule_brokenBy_68 ?_
        rw [nb_or]
        exact ex_iret dRule_brokenBy_69 rfl (Nat.le_refl _) (Nat.le_refl _) ⟨rfl, rfl⟩
      · exact absurd (nI_le (by omega) (by omega)) hc
    | succ j ih =>
      intro i hij
      have next : ∀ x, x = rhold cx (sb &&& sh) (i + 1) → Ex (l, G, d, 0, 0, h, fun o h' => o = .inl (some (.int (nI (rbroken rs ps cx p sb sh)))) ∧ h' = h) mRule_brokenBy 42 [some (.ref a), some (.int (nI p)), some (.int (nI sb)), some (.int (nI sh)), some (.int (nI (sb &&& sh))), some (.int (nI x)), some (.int (nI i))] [] h 0 0 := by
        intro x hx
        refine ex_iinc (L' := [_, _, _, _, _, _, _]) dRule_brokenBy_42 rfl rfl (by decide) rfl ?_
        refine ex_goto (tgt := 11) dRule_brokenBy_45 (by decide) ?_
        rw [show nI i + Int32.ofInt 1 = nI (i + 1) from nI_1 i, hx]
        exact ih (i + 1) (by omega)
      refine ex_iload dRule_brokenBy_11 rfl ?_
      refine ex_aload_n dRule_brokenBy_13 rfl ?_
      refine ex_get dRule_brokenBy_14 fg_Rule_42 h1 rfl ?_
      refine ex_icmp_ge (tgt := 48) dRule_brokenBy_17 (by decide) (fun hc => ?_) (fun hc => ?_)
      · exact absurd hc (nI_ge (by omega) (by omega))
      refine ex_iload dRule_brokenBy_20 rfl ?_
      refine ex_aload_n dRule_brokenBy_22 rfl ?_
      refine ex_get dRule_brokenBy_23 fg_Rule_33 h1 rfl ?_
      refine ex_iload dRule_brokenBy_26 rfl ?_
      refine ex_iaload dRule_brokenBy_28 h5 rfl (by omega) (by omega) ?_
      refine ex_iand dRule_brokenBy_29 ?_
      rw [e5 i (by omega), nb_and]
      have hgl := rgoal_lt (r := i) (by omega) (cx i) (h9 i (by omega))
      have hgm : (sb &&& sh) &&& rgoal i (cx i) < 2 ^ 24 := and_ltr hgl
      refine ex_if_eq (tgt := 42) dRule_brokenBy_30 (by decide) (fun hc2 => ?_) (fun hc2 => ?_)
      · refine next _ ?_
        have q : (sb &&& sh) &&& rgoal i (cx i) = 0 := (nI_eq (b := 0) (by omega) (by omega)).mp hc2
        rw [rhold, rhold, msk, if_neg (by simp [q])]; simp
      refine ex_iload dRule_brokenBy_33 rfl ?_
      refine ex_iconst (v := nI 1) dRule_brokenBy_35 (by decide) ?_
      refine ex_iload dRule_brokenBy_36 rfl ?_
      refine ex_ishl dRule_brokenBy_38 ?_
      rw [nb_shl (a := 1) (by omega) (by have := Nat.pow_le_pow_right (show 0 < 2 by omega) (show i ≤ 4 by omega); omega)]
      refine ex_ior dRule_brokenBy_39 ?_
      rw [nb_or]
      refine ex_istore (L' := [_, _, _, _, _, _, _]) dRule_brokenBy_40 (by decide) rfl ?_
      refine next _ ?_
      have q : (sb &&& sh) &&& rgoal i (cx i) ≠ 0 := fun q => hc2 (by rw [q]; rfl)
      rw [rhold, rhold, msk, if_pos (by simp [q])]
  refine xMet_of (L := [_, _, _, _, _, _, _]) (by decide) (Nat.le_of_ble_eq_true rfl) rfl ?_
  refine ex_iload_n dRule_brokenBy_0 rfl ?_
  refine ex_iload_n dRule_brokenBy_1 rfl ?_
  refine ex_iand dRule_brokenBy_2 ?_
  rw [nb_and]
  refine ex_istore (L' := [_, _, _, _, _, _, _]) dRule_brokenBy_3 (by decide) rfl ?_
  refine ex_iconst (v := nI 0) dRule_brokenBy_5 (by decide) ?_
  refine ex_istore (L' := [_, _, _, _, _, _, _]) dRule_brokenBy_6 (by decide) rfl ?_
  refine ex_iconst (v := nI 0) dRule_brokenBy_8 (by decide) ?_
  refine ex_istore (L' := [_, _, _, _, _, _, _]) dRule_brokenBy_9 (by decide) rfl ?_
  exact loop rs.length 0 (by omega)
end RULE
