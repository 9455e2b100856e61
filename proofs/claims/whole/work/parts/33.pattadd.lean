/-! Patterns.addElement. -/
def pbit (fl : Bool) (c n : Nat) : Nat := pgoal c >>> (if fl then 1 else n)
def padL (fl : Bool) (c x : Nat) : Nat := if fl then plow x c else x
def padH (fl : Bool) (c s n : Nat) (hv : Nat → Nat) : Nat → Nat := fun j => if s.testBit j then padL fl c (hv j) ||| pbit fl c n else padL fl c (hv j)
def padS (fl : Bool) (c n : Nat) (b : Bool) (st : Nat) : Nat := if b then padL fl c st ||| pbit fl c n else padL fl c st
theorem pbit_lt {fl : Bool} {c n : Nat} (hc : c < 8) : pbit fl c n < 2 ^ 24 := shr_lt (pgoal_lt hc)
theorem padL_lt {fl : Bool} {c x : Nat} (hx : x < 2 ^ 24) : padL fl c x < 2 ^ 24 := by
  unfold padL
  split
  · exact plow_lt hx
  · exact hx
section PADD
variable {l : Launch} {G : xG} {d : Nat} {h : xH} {a : Nat} {fl : Bool} {sz hv : Nat → Nat} {st ss ls : Nat}
theorem c_Patt_addElement {c s : Nat} {b : Bool} (hc : c < 8) (hs : s < 2 ^ 10) (hz : sz c < 2) (H : Pt h a fl sz hv st ss ls) : xMet l G mPatt_addElement (d + 2) 0 0 [.ref a, .int (nI c), .int (nI s), .int (bI b)] h (fun o h' => o = .inl (some (.int (nI (sz c + 1)))) ∧ Pt h' a fl (va_up sz c (sz c + 1)) (padH fl c s (sz c + 1) hv) (padS fl c (sz c + 1) b st) (plow ss c) (plow ls c) ∧ Sm h h' a (a + 3)) := by
  have H0 := H
  obtain ⟨f, g, h1, h2, h3, h4, h5, h6, h7, h8, h9, h10⟩ := H
  have hs1 : va_up sz c (sz c + 1) c = sz c + 1 := va_up_self _ _ _
  have hszu : ∀ j, j < 8 → va_up sz c (sz c + 1) j ≤ 2 := fun j hj => by
    by_cases e : j = c
    · subst e; rw [va_up_self]; omega
    · rw [va_up_ne _ _ e]; exact h10 j hj
  have fin : ∀ hi : xH, Pt hi a fl (va_up sz c (sz c + 1)) (padH fl c s (sz c + 1) hv) (padL fl c st) (plow ss c) (plow ls c) → Sm h hi a (a + 3) → ∀ x5, Ex (l, G, d + 2, 0, 0, h, fun o h' => o = .inl (some (.int (nI (sz c + 1)))) ∧ Pt h' a fl (va_up sz c (sz c + 1)) (padH fl c s (sz c + 1) hv) (padS fl c (sz c + 1) b st) (plow ss c) (plow ls c) ∧ Sm h h' a (a + 3)) mPatt_addElement 108 [some (.ref a), some (.int (nI c)), some (.int (nI s)), some (.int (bI b)), some (.int (nI (pbit fl c (sz c + 1)))), x5] [] hi 0 0 := by
    intro hi HP hS x5
    have HP0 := HP
    obtain ⟨f, g, h1, h2, h3, h4, h5, h6, h7, h8, h9, h10⟩ := HP
    refine ex_iload_n dPatt_addElement_108 rfl ?_
    refine ex_if_eq (tgt := 123) dPatt_addElement_109 (by decide) (fun hc2 => ?_) (fun hc2 => ?_)
    · have hb : b = false := bI_0.mp hc2
      subst hb
      refine ex_aload_n dPatt_addElement_123 rfl ?_
      refine ex_get dPatt_addElement_124 fg_Patt_11 h1 rfl ?_
      refine ex_iload_n dPatt_addElement_127 rfl ?_
      refine ex_iaload dPatt_addElement_128 h2 rfl hc (by omega) ?_
      exact ex_iret dPatt_addElement_129 rfl (Nat.le_refl _) (Nat.le_refl _) ⟨by rw [h4 c hc, hs1], HP0, hS⟩
    · have hb : b = true := by cases b; exact absurd rfl hc2; rfl
      subst hb
      refine ex_aload_n dPatt_addElement_112 rfl ?_
      refine ex_dup dPatt_addElement_113 rfl ?_
      refine ex_get dPatt_addElement_114 fg_Patt_41 h1 rfl ?_
      refine ex_iload dPatt_addElement_117 rfl ?_
      refine ex_ior dPatt_addElement_119 ?_
      rw [nb_or]
      obtain ⟨P1, S1⟩ := HP0.obj (st' := padL fl c st ||| pbit fl c (sz c + 1)) (Nat.or_lt_two_pow h7 (pbit_lt hc)) h8 h9
      have P0 := P1
      obtain ⟨f', g', p1, p2, p3, p4, -⟩ := P0
      refine ex_put (fs' := [_, _, _, _, _, _]) dPatt_addElement_120 (fp_Patt_41 _) h1 rfl rfl (Nat.le_of_ble_eq_true rfl) rfl ?_
      refine ex_aload_n dPatt_addElement_123 rfl ?_
      refine ex_get dPatt_addElement_124 fg_Patt_11 p1 rfl ?_
      refine ex_iload_n dPatt_addElement_127 rfl ?_
      refine ex_iaload dPatt_addElement_128 p2 rfl hc (by omega) ?_
      exact ex_iret dPatt_addElement_129 rfl (Nat.le_refl _) (Nat.le_refl _) ⟨by rw [p4 c hc, hs1], P1, hS.trans S1⟩
  have loop : ∀ (j i : Nat) (hi : xH), i + j = 10 → Pt hi a fl (va_up sz c (sz c + 1)) (fun q => if q < i then padH fl c s (sz c + 1) hv q else padL fl c (hv q)) (padL fl c st) (plow ss c) (plow ls c) → Sm h hi a (a + 3) → Ex (l, G, d + 2, 0, 0, h, fun o h' => o = .inl (some (.int (nI (sz c + 1)))) ∧ Pt h' a fl (va_up sz c (sz c + 1)) (padH fl c s (sz c + 1) hv) (padS fl c (sz c + 1) b st) (plow ss c) (plow ls c) ∧ Sm h h' a (a + 3)) mPatt_addElement 73 [some (.ref a), some (.int (nI c)), some (.int (nI s)), some (.int (bI b)), some (.int (nI (pbit fl c (sz c + 1)))), some (.int (nI i))] [] hi 0 0 := by
    intro j
    induction j with
    | zero =>
      intro i hi hij HP hS
      have e : i = 10 := by omega
      subst e
      refine ex_iload dPatt_addElement_73 rfl ?_
      refine ex_bipush (v := nI 10) dPatt_addElement_75 (by decide) ?_
      refine ex_icmp_ge (tgt := 108) dPatt_addElement_77 (by decide) (fun hc9 => ?_) (fun hc9 => ?_)
      · refine fin hi ?_ hS _
        obtain ⟨f, g, h1, h2, h3, h4, h5, h6, h7⟩ := HP
        exact ⟨f, g, h1, h2, h3, h4, fun j hj => by rw [h5 j hj]; dsimp only; rw [if_pos hj], fun j hj => by have := h6 j hj; dsimp only at this; rw [if_pos hj] at this; exact this, h7⟩
      · exact absurd (by decide) hc9
    | succ j ih =>
      intro i hi hij HP hS
      have HP0 := HP
      obtain ⟨f, g, h1, h2, h3, h4, h5, h6, h7, h8, h9, h10⟩ := HP
      have h5i := h5 i (by omega)
      have h6i := h6 i (by omega)
      dsimp only at h5i h6i
      rw [if_neg (Nat.lt_irrefl i)] at h5i h6i
      refine ex_iload dPatt_addElement_73 rfl ?_
      refine ex_bipush (v := nI 10) dPatt_addElement_75 (by decide) ?_
      refine ex_icmp_ge (tgt := 108) dPatt_addElement_77 (by decide) (fun hc9 => ?_) (fun hc9 => ?_)
      · exact absurd hc9 (nI_ge (by omega) (by omega))
      refine ex_iload_n dPatt_addElement_80 rfl ?_
      refine ex_iload dPatt_addElement_81 rfl ?_
      refine ex_ishr dPatt_addElement_83 ?_
      refine ex_iconst (v := nI 1) dPatt_addElement_84 (by decide) ?_
      refine ex_iand dPatt_addElement_85 ?_
      refine ex_iconst (v := nI 1) dPatt_addElement_86 (by decide) ?_
      rw [nb_shr (by omega) (by omega), nb_and]
      refine ex_icmp_ne (tgt := 102) dPatt_addElement_87 (by decide) (fun hc3 => ?_) (fun hc3 => ?_)
      · have hb : s.testBit i = false := by
          cases hb : s.testBit i
          · rfl
          · exact absurd (by rw [nb_one.mpr hb]) hc3
        refine ex_iinc (L' := [_, _, _, _, _, _]) dPatt_addElement_102 rfl rfl (by decide) rfl ?_
        refine ex_goto (tgt := 73) dPatt_addElement_105 (by decide) ?_
        rw [show nI i + Int32.ofInt 1 = nI (i + 1) from nI_1 i]
        refine ih (i + 1) hi (by omega) ⟨f, g, h1, h2, h3, h4, fun q hq9 => ?_, fun q hq9 => ?_, h7, h8, h9, h10⟩ hS
        · rw [h5 q hq9]; dsimp only
          by_cases e : q = i
          · subst e; rw [if_neg (Nat.lt_irrefl q), if_pos (by omega), padH, hb]; rfl
          · by_cases hlt : q < i
            · rw [if_pos hlt, if_pos (by omega)]
            · rw [if_neg hlt, if_neg (by omega)]
        · have h6q := h6 q hq9
          dsimp only at h6q ⊢
          by_cases e : q = i
          · subst e; rw [if_pos (by omega), padH, hb]; exact h6i
          · by_cases hlt : q < i
            · rw [if_pos hlt] at h6q; rw [if_pos (by omega)]; exact h6q
            · rw [if_neg hlt] at h6q; rw [if_neg (by omega)]; exact h6q
      · have hb : s.testBit i = true := nb_one.mp ((nI_eq (by have := @and_ltr (s >>> i) 1 1 (by decide); omega) (by omega)).mp hc3)
        refine ex_aload_n dPatt_addElement_90 rfl ?_
        refine ex_get dPatt_addElement_91 fg_Patt_15 h1 rfl ?_
        refine ex_iload dPatt_addElement_94 rfl ?_
        refine ex_dup2 dPatt_addElement_96 rfl rfl ?_
        refine ex_iaload dPatt_addElement_97 h3 rfl (by omega) (by omega) ?_
        refine ex_iload dPatt_addElement_98 rfl ?_
        rw [h5i]
        refine ex_ior dPatt_addElement_100 ?_
        rw [nb_or]
        refine ex_iastore dPatt_addElement_101 h3 rfl (by omega) (by omega) ?_
        refine ex_iinc (L' := [_, _, _, _, _, _]) dPatt_addElement_102 rfl rfl (by decide) rfl ?_
        refine ex_goto (tgt := 73) dPatt_addElement_105 (by decide) ?_
        rw [show nI i + Int32.ofInt 1 = nI (i + 1) from nI_1 i]
        refine ih (i + 1) _ (by omega) ⟨f, upd g i (nI (padL fl c (hv i) ||| pbit fl c (sz c + 1))), by rw [xup_ne _ _ (by omega)]; exact h1, by rw [xup_ne _ _ (by omega)]; exact h2, xup_self _ _ _, h4, fun q hq9 => ?_, fun q hq9 => ?_, h7, h8, h9, h10⟩ (hS.trans (Sm.up (by omega) (by omega)))
        · by_cases e : q = i
          · subst e; rw [pk_us]; dsimp only; rw [if_pos (by omega), padH, hb]; rfl
          · rw [pk_un e, h5 q hq9]; dsimp only
            by_cases hlt : q < i
            · rw [if_pos hlt, if_pos (by omega)]
            · rw [if_neg hlt, if_neg (by omega)]
        · have h6q := h6 q hq9
          dsimp only at h6q ⊢
          by_cases e : q = i
          · subst e; rw [if_pos (by omega), padH, hb]; exact Nat.or_lt_two_pow h6i (pbit_lt hc)
          · by_cases hlt : q < i
            · rw [if_pos hlt] at h6q; rw [if_pos (by omega)]; exact h6q
            · rw [if_neg hlt] at h6q; rw [if_neg (by omega)]; exact h6q
  have tail2 : ∀ (hi : xH) (k : Nat), Pt hi a fl (va_up sz c (sz c + 1)) (fun q => padL fl c (hv q)) (padL fl c st) (plow ss c) (plow ls c) → Sm h hi a (a + 3) → k = (if fl then 1 else sz c + 1) → Ex (l, G, d + 2, 0, 0, h, fun o h' => o = .inl (some (.int (nI (sz c + 1)))) ∧ Pt h' a fl (va_up sz c (sz c + 1)) (padH fl c s (sz c + 1) hv) (padS fl c (sz c + 1) b st) (plow ss c) (plow ls c) ∧ Sm h h' a (a + 3)) mPatt_addElement 67 [some (.ref a), some (.int (nI c)), some (.int (nI s)), some (.int (bI b)), none, none] [.int (nI k), .int (nI (pgoal c))] hi 0 0 := by
    intro hi k HP hS hk
    have hk2 : k < 32 := by rw [hk]; split <;> omega
    refine ex_ishr dPatt_addElement_67 ?_
    rw [nb_shr hk2 (Nat.lt_of_lt_of_le (pgoal_lt hc) (by decide)), show pgoal c >>> k = pbit fl c (sz c + 1) by rw [pbit, hk]]
    refine ex_istore (L' := [_, _, _, _, _, _]) dPatt_addElement_68 (by decide) rfl ?_
    refine ex_iconst (v := nI 0) dPatt_addElement_70 (by decide) ?_
    refine ex_istore (L' := [_, _, _, _, _, _]) dPatt_addElement_71 (by decide) rfl ?_
    refine loop 10 0 hi (by omega) ?_ hS
    obtain ⟨f, g, h1, h2, h3, h4, h5, h6, h7⟩ := HP
    exact ⟨f, g, h1, h2, h3, h4, fun j hj => by rw [h5 j hj]; dsimp only; rw [if_neg (Nat.not_lt_zero j)], fun j hj => by dsimp only; rw [if_neg (Nat.not_lt_zero j)]; exact h6 j hj, h7⟩
  have tail : ∀ hi : xH, Pt hi a fl sz (fun q => padL fl c (hv q)) (padL fl c st) (plow ss c) (plow ls c) → Sm h hi a (a + 3) → Ex (l, G, d + 2, 0, 0, h, fun o h' => o = .inl (some (.int (nI (sz c + 1)))) ∧ Pt h' a fl (va_up sz c (sz c + 1)) (padH fl c s (sz c + 1) hv) (padS fl c (sz c + 1) b st) (plow ss c) (plow ls c) ∧ Sm h h' a (a + 3)) mPatt_addElement 36 [some (.ref a), some (.int (nI c)), some (.int (nI s)), some (.int (bI b)), none, none] [] hi 0 0 := by
    intro hi HP hS
    obtain ⟨f, g, h1, h2, h3, h4, h5, h6, h7, h8, h9, h10⟩ := HP
    refine ex_aload_n dPatt_addElement_36 rfl ?_
    refine ex_get dPatt_addElement_37 fg_Patt_11 h1 rfl ?_
    refine ex_iload_n dPatt_addElement_40 rfl ?_
    refine ex_dup2 dPatt_addElement_41 rfl rfl ?_
    refine ex_iaload dPatt_addElement_42 h2 rfl hc (by omega) ?_
    refine ex_iconst (v := nI 1) dPatt_addElement_43 (by decide) ?_
    refine ex_iadd dPatt_addElement_44 ?_
    rw [h4 c hc, show nI (sz c) + nI 1 = nI (sz c + 1) from nI_add _ _]
    refine ex_iastore dPatt_addElement_45 h2 rfl hc (by omega) ?_
    refine ex_iload_n dPatt_addElement_46 rfl ?_
    have HP2 : Pt (xup hi (a + 1) (cI 8 (upd f c (nI (sz c + 1))))) a fl (va_up sz c (sz c + 1)) (fun q => padL fl c (hv q)) (padL fl c st) (plow ss c) (plow ls c) := by
      refine ⟨upd f c (nI (sz c + 1)), g, by rw [xup_ne _ _ (by omega)]; exact h1, xup_self _ _ _, by rw [xup_ne _ _ (by omega)]; exact h3, fun j hj => ?_, h5, h6, h7, h8, h9, hszu⟩
      by_cases e : j = c
      · subst e; rw [pk_us, va_up_self]
      · rw [pk_un e, va_up_ne _ _ e]; exact h4 j hj
    have hS2 : Sm h (xup hi (a + 1) (cI 8 (upd f c (nI (sz c + 1))))) a (a + 3) := hS.trans (Sm.up (by omega) (by omega))
    generalize xup hi (a + 1) (cI 8 (upd f c (nI (sz c + 1)))) = hj at HP2 hS2 ⊢
    refine ex_s1 dPatt_addElement_47 is_Patt_26 cd_Patt_goalOf ar_Patt_goalOf (c_Patt_goalOf (d := d) hc) (by dsimp only; omega) (Nat.le_of_ble_eq_true rfl) (Nat.le_refl _) (Nat.le_refl _) (fun E h9 q9 => by simp at q9) (fun v9 hp9 hq => ?_)
    obtain ⟨e, e2⟩ := hq
    cases e
    rw [e2]
    have HP3 := HP2
    obtain ⟨f', g', p1, p2, p3, p4, -⟩ := HP3
    refine ex_aload_n dPatt_addElement_50 rfl ?_
    refine ex_get dPatt_addElement_51 fg_Patt_18 p1 rfl ?_
    refine ex_if_eq (tgt := 61) dPatt_addElement_54 (by decide) (fun hc4 => ?_) (fun hc4 => ?_)
    · have hf : fl = false := bI_0.mp hc4
      refine ex_aload_n dPatt_addElement_61 rfl ?_
      refine ex_get dPatt_addElement_62 fg_Patt_11 p1 rfl ?_
      refine ex_iload_n dPatt_addElement_65 rfl ?_
      refine ex_iaload dPatt_addElement_66 p2 rfl hc (by omega) ?_
      rw [p4 c hc, hs1]
      exact tail2 hj _ HP2 hS2 (by rw [hf]; rfl)
    · have hf : fl = true := by cases fl; exact absurd rfl hc4; rfl
      refine ex_iconst (v := nI 1) dPatt_addElement_57 (by decide) ?_
      refine ex_goto (tgt := 67) dPatt_addElement_58 (by decide) ?_
      exact tail2 hj 1 HP2 hS2 (by rw [hf]; rfl)
  refine xMet_of (L := [_, _, _, _, _, _]) (by decide) (Nat.le_of_ble_eq_true rfl) rfl ?_
  refine ex_aload_n dPatt_addElement_0 rfl ?_
  refine ex_aload_n dPatt_addElement_1 rfl ?_
  refine ex_get dPatt_addElement_2 fg_Patt_22 h1 rfl ?_
  refine ex_iload_n dPatt_addElement_5 rfl ?_
  refine ex_s2 dPatt_addElement_6 is_Patt_33 cd_Patt_lowered ar_Patt_lowered (c_Patt_lowered (d := d) h8 hc) (by dsimp only; omega) (Nat.le_of_ble_eq_true rfl) (Nat.le_refl _) (Nat.le_refl _) (fun E h9 q9 => by simp at q9) (fun v9 hp9 hq => ?_)
  obtain ⟨e, e2⟩ := hq
  cases e
  rw [e2]
  obtain ⟨P1, S1⟩ := H0.obj h7 (plow_lt (c := c) h8) h9
  refine ex_put (fs' := [_, _, _, _, _, _]) dPatt_addElement_9 (fp_Patt_22 _) h1 rfl rfl (Nat.le_of_ble_eq_true rfl) rfl ?_
  refine ex_aload_n dPatt_addElement_12 rfl ?_
  refine ex_aload_n dPatt_addElement_13 rfl ?_
  refine ex_get dPatt_addElement_14 fg_Patt_30 (xup_self _ _ _) rfl ?_
  refine ex_iload_n dPatt_addElement_17 rfl ?_
  refine ex_s2 dPatt_addElement_18 is_Patt_33 cd_Patt_lowered ar_Patt_lowered (c_Patt_lowered (d := d) h9 hc) (by dsimp only; omega) (Nat.le_of_ble_eq_true rfl) (Nat.le_refl _) (Nat.le_refl _) (fun E h9 q9 => by simp at q9) (fun v9 hp9 hq => ?_)
  obtain ⟨e, e3⟩ := hq
  cases e
  rw [e3]
  obtain ⟨P2, S2⟩ := P1.obj h7 (plow_lt (c := c) h8) (plow_lt (c := c) h9)
  refine ex_put (fs' := [_, _, _, _, _, _]) dPatt_addElement_21 (fp_Patt_30 _) (xup_self _ _ _) rfl rfl (Nat.le_of_ble_eq_true rfl) rfl ?_
  refine ex_aload_n dPatt_addElement_24 rfl ?_
  refine ex_get dPatt_addElement_25 fg_Patt_18 (xup_self _ _ _) rfl ?_
  generalize xup (xup h a (cPatt a fl st (plow ss c) ls)) a (cPatt a fl st (plow ss c) (plow ls c)) = hB at P2 S2 ⊢
  have S3 := S1.trans S2
  have P3 := P2
  obtain ⟨f', g', p1, -⟩ := P3
  refine ex_if_eq (tgt := 36) dPatt_addElement_28 (by decide) (fun hc2 => ?_) (fun hc2 => ?_)
  · have hf : fl = false := bI_0.mp hc2
    subst hf
    exact tail hB P2 S3
  · have hf : fl = true := by cases fl; exact absurd rfl hc2; rfl
    subst hf
    refine ex_aload_n dPatt_addElement_31 rfl ?_
    refine ex_iload_n dPatt_addElement_32 rfl ?_
    refine ex_p1 dPatt_addElement_33 ip_Patt_37 cd_Patt_lowerElements ar_Patt_lowerElements p1 (c_Patt_lowerElements (d := d) hc P2) (by dsimp only; omega) (Nat.le_of_ble_eq_true rfl) (Nat.le_refl _) (Nat.le_refl _) (fun E h9 q9 => by simp at q9) (fun v9 hp9 hq => ?_)
    obtain ⟨e, P4, S4⟩ := hq
    cases e
    exact tail _ P4 (S3.trans S4)
end PADD
