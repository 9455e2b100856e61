/-! Rules.settle and the constructor. -/
theorem xnew_ne {h : xH} {b : Nat} (e : xE) (hb : b ≠ h.1) : (xnew h e).2 b = h.2 b := by simp [xnew, hb]
theorem xnew_self (h : xH) (e : xE) : (xnew h e).2 h.1 = some e := by simp [xnew]
section SETTLE
variable {l : Launch} {G : xG} {d : Nat} {h : xH} {a : Nat} {rs ps : List (Nat × Nat)} {cx : Nat → Nat}
theorem c_Rule_settle {b : Nat} (hd : b + 3 ≤ a) (hps : ∀ q ∈ rs, q.2 < ps.length) (H : Ru h a rs cx) (HP : Prs h b ps) : xMet l G mRule_settle (d + 1) 0 0 [.ref a, .ref b] h (fun o h' => o = .inl none ∧ Ru h' a rs cx ∧ Sd h' a rs ps ∧ Sm h h' (a + 11) (a + 13)) := by
  have outer : ∀ (j i : Nat) (hi : xH), i + j = ps.length → Ru hi a rs cx → IA hi (a + 11) 10 i (fun j => msk (rask rs j) rs.length) → IA hi (a + 12) 10 i (fun j => msk (rbar rs ps j) rs.length) → Sm h hi (a + 11) (a + 13) → ∀ x3 x4 x5 : Option Value, Ex (l, G, d + 1, 0, 0, h, fun o h' => o = .inl none ∧ Ru h' a rs cx ∧ Sd h' a rs ps ∧ Sm h h' (a + 11) (a + 13)) mRule_settle 2 [some (.ref a), some (.ref b), some (.int (nI i)), x3, x4, x5] [] hi 0 0 := by
    intro j
    induction j with
    | zero =>
      intro i hi hij HR HA HB hS x3 x4 x5
      have HPi := HP.sm hS (by omega)
      have HPc := HPi
      obtain ⟨pf, pg, p1, -, -, p4, -⟩ := HPc
      have e : i = ps.length := by omega
      subst e
      refine ex_iload_n dRule_settle_2 rfl ?_
      refine ex_aload_n dRule_settle_3 rfl ?_
      refine ex_v0 dRule_settle_4 iv_Rule_57 cd_Pairs_count ar_Pairs_count p1 (c_Pairs_count (d := d) HPi) (by dsimp only; omega) (Nat.le_of_ble_eq_true rfl) (Nat.le_refl _) (Nat.le_refl _) (fun E h9 q9 => by simp at q9) (fun v9 hp9 hq => ?_)
      obtain ⟨e, e1⟩ := hq
      cases e
      rw [e1]
      refine ex_icmp_ge (tgt := 155) dRule_settle_7 (by decide) (fun hc => ?_) (fun hc => ?_)
      · exact ex_vret dRule_settle_155 rfl (Nat.le_refl _) (Nat.le_refl _) ⟨rfl, HR, ⟨HA, HB⟩, hS⟩
      · exact absurd (nI_le (Nat.le_refl _) (by omega)) hc
    | succ j ih =>
      intro i hi hij HR HA HB hS x3 x4 x5
      have HPi := HP.sm hS (by omega)
      have HPc := HPi
      obtain ⟨pf, pg, p1, -, -, p4, p5, p6, p7⟩ := HPc
      have inner : ∀ (j2 r : Nat) (hj : xH), r + j2 = rs.length → Ru hj a rs cx → IA hj (a + 11) 10 (i + 1) (va_up (fun j => msk (rask rs j) rs.length) i (msk (rask rs i) r)) → IA hj (a + 12) 10 (i + 1) (va_up (fun j => msk (rbar rs ps j) rs.length) i (msk (rbar rs ps i) r)) → Sm h hj (a + 11) (a + 13) → ∀ x4 x5 : Option Value, Ex (l, G, d + 1, 0, 0, h, fun o h' => o = .inl none ∧ Ru h' a rs cx ∧ Sd h' a rs ps ∧ Sm h h' (a + 11) (a + 13)) mRule_settle 26 [some (.ref a), some (.ref b), some (.int (nI i)), some (.int (nI r)), x4, x5] [] hj 0 0 := by
        intro j2
        induction j2 with
        | zero =>
          intro r hj hrj HR HA HB hS x4 x5
          have HR0 := HR
          obtain ⟨h1, ⟨fk, h2, e2⟩, ⟨fp, h3, e3⟩, ⟨fc, h4, e4⟩, ⟨fg, h5, e5⟩, ⟨fa, h6, e6⟩, ⟨fb, h7, e7⟩, h8, h9, h10⟩ := HR
          have e : r = rs.length := by omega
          subst e
          refine ex_iload_n dRule_settle_26 rfl ?_
          refine ex_aload_n dRule_settle_27 rfl ?_
          refine ex_get dRule_settle_28 fg_Rule_42 h1 rfl ?_
          refine ex_icmp_ge (tgt := 149) dRule_settle_31 (by decide) (fun hc => ?_) (fun hc => ?_)
          · refine ex_iinc (L' := [_, _, _, _, _, _]) dRule_settle_149 rfl rfl (by decide) rfl ?_
            refine ex_goto (tgt := 2) dRule_settle_152 (by decide) ?_
            rw [show nI i + Int32.ofInt 1 = nI (i + 1) from nI_1 i]
            refine ih (i + 1) hj (by omega) HR0 (HA.to (Nat.le_refl _) (fun q hq => ?_)) (HB.to (Nat.le_refl _) (fun q hq => ?_)) hS _ _ _
            · by_cases e : q = i
              · subst e; rw [va_up_self]
              · rw [va_up_ne _ _ e]
            · by_cases e : q = i
              · subst e; rw [va_up_self]
              · rw [va_up_ne _ _ e]
          · exact absurd (nI_le (Nat.le_refl _) (by omega)) hc
        | succ j2 ih2 =>
          intro r hj hrj HR HA HB hS x4 x5
          have HR0 := HR
          obtain ⟨h1, ⟨fk, h2, e2⟩, ⟨fp, h3, e3⟩, ⟨fc, h4, e4⟩, ⟨fg, h5, e5⟩, ⟨fa, h6, e6⟩, ⟨fb, h7, e7⟩, h8, h9, h10⟩ := HR
          have HPj := HP.sm hS (by omega)
          have HPc := HPj
          obtain ⟨pf, pg, p1, -, -, p4, p5, p6, p7⟩ := HPc
          have hrm : rs.getD r (0, 0) ∈ rs := getD_mem (by omega)
          have hrp := hps _ hrm
          have hrk := h10 _ hrm
          have hpi : (ps.getD i (0, 0)).1 < 8 := (p7 _ (getD_mem (by omega))).1
          have hpr : (ps.getD (rs.getD r (0, 0)).2 (0, 0)).1 < 8 := (p7 _ (getD_mem hrp)).1
          have h2r : nI 1 <<< (nI r &&& 31) = nI (1 <<< r) := nb_shl (a := 1) (by omega) (by have := Nat.pow_le_pow_right (show 0 < 2 by omega) (show r ≤ 4 by omega); omega)
          have D : ∀ (hk : xH) (s v : Bool) (x : Nat), Ru hk a rs cx → IA hk (a + 11) 10 (i + 1) (va_up (fun j => msk (rask rs j) rs.length) i (msk (rask rs i) (r + 1))) → hk.2 (a + 12) = hj.2 (a + 12) → Sm h hk (a + 11) (a + 13) → x = (if rbar rs ps i r then 1 <<< r else 0) → Ex (l, G, d + 1, 0, 0, h, fun o h' => o = .inl none ∧ Ru h' a rs cx ∧ Sd h' a rs ps ∧ Sm h h' (a + 11) (a + 13)) mRule_settle 141 [some (.ref a), some (.ref b), some (.int (nI i)), some (.int (nI r)), some (.int (bI s)), some (.int (bI v))] [.int (nI x), .int (nI (msk (rbar rs ps i) r)), .int (nI i), .ref (a + 12)] hk 0 0 := by
            intro hk s v x HRk HAk hbk hSk hx
            obtain ⟨gb, hb1, hb2⟩ := HB.at hbk
            refine ex_ior dRule_settle_141 ?_
            rw [nb_or]
            refine ex_iastore dRule_settle_142 hb1 rfl (by omega) (by omega) ?_
            refine ex_iinc (L' := [_, _, _, _, _, _]) dRule_settle_143 rfl rfl (by decide) rfl ?_
            refine ex_goto (tgt := 26) dRule_settle_146 (by decide) ?_
            rw [show nI r + Int32.ofInt 1 = nI (r + 1) from nI_1 r, hx]
            have S9 : Sm hk (xup hk (a + 12) (cI 10 (upd gb i (nI (msk (rbar rs ps i) r ||| (if rbar rs ps i r then 1 <<< r else 0)))))) (a + 12) (a + 13) := Sm.up (by omega) (by omega)
            refine ih2 (r + 1) _ (by omega) ?_ (HAk.at (S9.2 _ (by omega))) ?_ (hSk.trans (S9.wide (by omega) (by omega))) _ _
            · obtain ⟨k1, k2, k3, k4, k5, k6, k7, k8⟩ := HRk
              exact ⟨(S9.2 _ (by omega)).trans k1, k2.at (S9.2 _ (by omega)), k3.at (S9.2 _ (by omega)), k4.at (S9.2 _ (by omega)), k5.at (S9.2 _ (by omega)), k6.at (S9.2 _ (by omega)), ⟨_, xup_self _ _ _, fun j hj => absurd hj (Nat.not_lt_zero _)⟩, k8⟩
            · refine (IA.st hb2).to (Nat.le_refl _) (fun q hq => ?_)
              by_cases e : q = i
              · subst e; rw [va_up_self, va_up_self, msk]
              · rw [va_up_ne _ _ e, va_up_ne _ _ e, va_up_ne _ _ e]
          have Cc : ∀ (s v : Bool) (x : Nat), s = (i == (rs.getD r (0, 0)).2) → v = rrival rs ps i r → x = (if rask rs i r then 1 <<< r else 0) → Ex (l, G, d + 1, 0, 0, h, fun o h' => o = .inl none ∧ Ru h' a rs cx ∧ Sd h' a rs ps ∧ Sm h h' (a + 11) (a + 13)) mRule_settle 109 [some (.ref a), some (.ref b), some (.int (nI i)), some (.int (nI r)), some (.int (bI s)), some (.int (bI v))] [.int (nI x), .int (nI (msk (rask rs i) r)), .int (nI i), .ref (a + 11)] hj 0 0 := by
            intro s v x hs hv hx
            obtain ⟨ga, ha1, ha2⟩ := HA
            obtain ⟨gb, hb1, hb2⟩ := HB
            refine ex_ior dRule_settle_109 ?_
            rw [nb_or]
            have S9 : Sm hj (xup hj (a + 11) (cI 10 (upd ga i (nI (msk (rask rs i) r ||| x))))) (a + 11) (a + 12) := Sm.up (by omega) (by omega)
            have k1 := (S9.2 a (by omega)).trans h1
            have k2 := (S9.2 (a + 7) (by omega)).trans h2
            have k7 := (S9.2 (a + 12) (by omega)).trans hb1
            have HRk : Ru (xup hj (a + 11) (cI 10 (upd ga i (nI (msk (rask rs i) r ||| x))))) a rs cx := ⟨k1, ⟨fk, k2, e2⟩, ⟨fp, (S9.2 _ (by omega)).trans h3, e3⟩, ⟨fc, (S9.2 _ (by omega)).trans h4, e4⟩, ⟨fg, (S9.2 _ (by omega)).trans h5, e5⟩, ⟨_, xup_self _ _ _, fun j hj => absurd hj (Nat.not_lt_zero _)⟩, ⟨fb, (S9.2 _ (by omega)).trans h7, e7⟩, h8, h9, h10⟩
            have HAk : IA (xup hj (a + 11) (cI 10 (upd ga i (nI (msk (rask rs i) r ||| x))))) (a + 11) 10 (i + 1) (va_up (fun j => msk (rask rs j) rs.length) i (msk (rask rs i) (r + 1))) := by
              refine (IA.st ha2).to (Nat.le_refl _) (fun q hq => ?_)
              by_cases e : q = i
              · subst e; rw [va_up_self, va_up_self, msk, hx]
              · rw [va_up_ne _ _ e, va_up_ne _ _ e, va_up_ne _ _ e]
            refine ex_iastore dRule_settle_110 ha1 rfl (by omega) (by omega) ?_
            refine ex_aload_n dRule_settle_111 rfl ?_
            refine ex_get dRule_settle_112 fg_Rule_39 k1 rfl ?_
            refine ex_iload_n dRule_settle_115 rfl ?_
            refine ex_dup2 dRule_settle_116 rfl rfl ?_
            refine ex_iaload dRule_settle_117 k7 rfl (by omega) (by omega) ?_
            refine ex_aload_n dRule_settle_118 rfl ?_
            refine ex_get dRule_settle_119 fg_Rule_23 k1 rfl ?_
            refine ex_iload_n dRule_settle_122 rfl ?_
            refine ex_iaload dRule_settle_123 k2 rfl (by omega) (by omega) ?_
            refine ex_iload dRule_settle_124 rfl ?_
            refine ex_iload dRule_settle_126 rfl ?_
            rw [hb2 i (by omega), va_up_self, e2 r (by omega)]
            refine ex_s3 dRule_settle_128 is_Rule_69 cd_Rule_bars ar_Rule_bars (c_Rule_bars (d := d) (k := (rs.getD r (0, 0)).1) (s := s) (v := v) (by omega)) (by dsimp only; omega) (Nat.le_of_ble_eq_true rfl) (Nat.le_refl _) (Nat.le_refl _) (fun E h9 q9 => by simp at q9) (fun v9 hp9 hq => ?_)
            obtain ⟨e, e1⟩ := hq
            cases e
            rw [e1]
            refine ex_if_eq (tgt := 140) dRule_settle_131 (by decide) (fun hc9 => ?_) (fun hc9 => ?_)
            · refine ex_iconst (v := nI 0) dRule_settle_140 (by decide) ?_
              refine D _ s v 0 HRk HAk (S9.2 _ (by omega)) (hS.trans (S9.wide (by omega) (by omega))) ?_
              rw [rbar, ← hs, ← hv, bI_0.mp hc9]; rfl
            refine ex_iconst (v := nI 1) dRule_settle_134 (by decide) ?_
            refine ex_iload_n dRule_settle_135 rfl ?_
            refine ex_ishl dRule_settle_136 ?_
            rw [h2r]
            refine ex_goto (tgt := 141) dRule_settle_137 (by decide) ?_
            refine D _ s v _ HRk HAk (S9.2 _ (by omega)) (hS.trans (S9.wide (by omega) (by omega))) ?_
            have hb : rbars (rs.getD r (0, 0)).1 s v = true := by
              cases hq9 : rbars (rs.getD r (0, 0)).1 s v
              · rw [hq9] at hc9; exact absurd rfl hc9
              · rfl
            rw [rbar, ← hs, ← hv, hb]; rfl
          have Bb : ∀ (s v : Bool) (y : Option Value), s = (i == (rs.getD r (0, 0)).2) → v = rrival rs ps i r → Ex (l, G, d + 1, 0, 0, h, fun o h' => o = .inl none ∧ Ru h' a rs cx ∧ Sd h' a rs ps ∧ Sm h h' (a + 11) (a + 13)) mRule_settle 79 [some (.ref a), some (.ref b), some (.int (nI i)), some (.int (nI r)), some (.int (bI s)), y] [.int (bI v)] hj 0 0 := by
            intro s v y hs hv
            have HAc := HA
            obtain ⟨ga, ha1, ha2⟩ := HAc
            refine ex_istore (L' := [_, _, _, _, _, _]) dRule_settle_79 (by decide) rfl ?_
            refine ex_aload_n dRule_settle_81 rfl ?_
            refine ex_get dRule_settle_82 fg_Rule_36 h1 rfl ?_
            refine ex_iload_n dRule_settle_85 rfl ?_
            refine ex_dup2 dRule_settle_86 rfl rfl ?_
            refine ex_iaload dRule_settle_87 ha1 rfl (by omega) (by omega) ?_
            refine ex_aload_n dRule_settle_88 rfl ?_
            refine ex_get dRule_settle_89 fg_Rule_23 h1 rfl ?_
            refine ex_iload_n dRule_settle_92 rfl ?_
            refine ex_iaload dRule_settle_93 h2 rfl (by omega) (by omega) ?_
            refine ex_iload dRule_settle_94 rfl ?_
            rw [ha2 i (by omega), va_up_self, e2 r (by omega)]
            refine ex_s2 dRule_settle_96 is_Rule_65 cd_Rule_asks ar_Rule_asks (c_Rule_asks (d := d) (k := (rs.getD r (0, 0)).1) (s := s) (by omega)) (by dsimp only; omega) (Nat.le_of_ble_eq_true rfl) (Nat.le_refl _) (Nat.le_refl _) (fun E h9 q9 => by simp at q9) (fun v9 hp9 hq => ?_)
            obtain ⟨e, e1⟩ := hq
            cases e
            rw [e1]
            refine ex_if_eq (tgt := 108) dRule_settle_99 (by decide) (fun hc9 => ?_) (fun hc9 => ?_)
            · refine ex_iconst (v := nI 0) dRule_settle_108 (by decide) ?_
              refine Cc s v 0 hs hv ?_
              rw [rask, ← hs, bI_0.mp hc9]; rfl
            refine ex_iconst (v := nI 1) dRule_settle_102 (by decide) ?_
            refine ex_iload_n dRule_settle_103 rfl ?_
            refine ex_ishl dRule_settle_104 ?_
            rw [h2r]
            refine ex_goto (tgt := 109) dRule_settle_105 (by decide) ?_
            refine Cc s v _ hs hv ?_
            have hb : rasks (rs.getD r (0, 0)).1 s = true := by
              cases hq9 : rasks (rs.getD r (0, 0)).1 s
              · rw [hq9] at hc9; exact absurd rfl hc9
              · rfl
            rw [rask, ← hs, hb]; rfl
          have Aa : ∀ (s : Bool) (y z : Option Value), s = (i == (rs.getD r (0, 0)).2) → Ex (l, G, d + 1, 0, 0, h, fun o h' => o = .inl none ∧ Ru h' a rs cx ∧ Sd h' a rs ps ∧ Sm h h' (a + 11) (a + 13)) mRule_settle 49 [some (.ref a), some (.ref b), some (.int (nI i)), some (.int (nI r)), y, z] [.int (bI s)] hj 0 0 := by
            intro s y z hs
            refine ex_istore (L' := [_, _, _, _, _, _]) dRule_settle_49 (by decide) rfl ?_
            refine ex_iload dRule_settle_51 rfl ?_
            refine ex_if_ne (tgt := 78) dRule_settle_53 (by decide) (fun hc9 => ?_) (fun hc9 => ?_)
            · have hst : s = true := by cases s; exact absurd rfl hc9; rfl
              refine ex_iconst (v := nI 0) dRule_settle_78 (by decide) ?_
              refine Bb s false _ hs ?_
              rw [rrival, ← hs, hst]; rfl
            have hsf : s = false := bI_0.mp hc9
            refine ex_aload_n dRule_settle_56 rfl ?_
            refine ex_iload_n dRule_settle_57 rfl ?_
            refine ex_v1 dRule_settle_58 iv_Rule_62 cd_Pairs_lowerOf ar_Pairs_lowerOf p1 (c_Pairs_lowerOf (d := d) (i := i) (by omega) HPj) (by dsimp only; omega) (Nat.le_of_ble_eq_true rfl) (Nat.le_refl _) (Nat.le_refl _) (fun E h9 q9 => by simp at q9) (fun v9 hp9 hq => ?_)
            obtain ⟨e, e1⟩ := hq
            cases e
            rw [e1]
            refine ex_aload_n dRule_settle_61 rfl ?_
            refine ex_aload_n dRule_settle_62 rfl ?_
            refine ex_get dRule_settle_63 fg_Rule_27 h1 rfl ?_
            refine ex_iload_n dRule_settle_66 rfl ?_
            refine ex_iaload dRule_settle_67 h3 rfl (by omega) (by omega) ?_
            rw [e3 r (by omega)]
            refine ex_v1 dRule_settle_68 iv_Rule_62 cd_Pairs_lowerOf ar_Pairs_lowerOf p1 (c_Pairs_lowerOf (d := d) (i := (rs.getD r (0, 0)).2) hrp HPj) (by dsimp only; omega) (Nat.le_of_ble_eq_true rfl) (Nat.le_refl _) (Nat.le_refl _) (fun E h9 q9 => by simp at q9) (fun v8 hp8 hq => ?_)
            obtain ⟨e, e1⟩ := hq
            cases e
            rw [e1]
            refine ex_icmp_ne (tgt := 78) dRule_settle_71 (by decide) (fun hc8 => ?_) (fun hc8 => ?_)
            · refine ex_iconst (v := nI 0) dRule_settle_78 (by decide) ?_
              refine Bb s false _ hs ?_
              have q : ¬ (ps.getD i (0, 0)).1 = (ps.getD (rs.getD r (0, 0)).2 (0, 0)).1 := fun q => hc8 (by rw [q])
              rw [rrival, ← hs, hsf]; simpa using q
            refine ex_iconst (v := nI 1) dRule_settle_74 (by decide) ?_
            refine ex_goto (tgt := 79) dRule_settle_75 (by decide) ?_
            refine Bb s true _ hs ?_
            have q : (ps.getD i (0, 0)).1 = (ps.getD (rs.getD r (0, 0)).2 (0, 0)).1 := (nI_eq (by omega) (by omega)).mp hc8
            rw [rrival, ← hs, hsf]; simpa using q
          refine ex_iload_n dRule_settle_26 rfl ?_
          refine ex_aload_n dRule_settle_27 rfl ?_
          refine ex_get dRule_settle_28 fg_Rule_42 h1 rfl ?_
          refine ex_icmp_ge (tgt := 149) dRule_settle_31 (by decide) (fun hc => ?_) (fun hc => ?_)
          · exact absurd hc (nI_ge (by omega) (by omega))
          refine ex_iload_n dRule_settle_34 rfl ?_
          refine ex_aload_n dRule_settle_35 rfl ?_
          refine ex_get dRule_settle_36 fg_Rule_27 h1 rfl ?_
          refine ex_iload_n dRule_settle_39 rfl ?_
          refine ex_iaload dRule_settle_40 h3 rfl (by omega) (by omega) ?_
          rw [e3 r (by omega)]
          refine ex_icmp_ne (tgt := 48) dRule_settle_41 (by decide) (fun hc2 => ?_) (fun hc2 => ?_)
          · refine ex_iconst (v := nI 0) dRule_settle_48 (by decide) ?_
            refine Aa false _ _ ?_
            have q : ¬ i = (rs.getD r (0, 0)).2 := fun q => hc2 (by dsimp only; rw [← q])
            simpa using q
          refine ex_iconst (v := nI 1) dRule_settle_44 (by decide) ?_
          refine ex_goto (tgt := 49) dRule_settle_45 (by decide) ?_
          refine Aa true _ _ ?_
          have q : i = (rs.getD r (0, 0)).2 := (nI_eq (by omega) (by omega)).mp hc2
          simpa using q
      have HR0 := HR
      obtain ⟨h1, ⟨fk, h2, e2⟩, ⟨fp, h3, e3⟩, ⟨fc, h4, e4⟩, ⟨fg, h5, e5⟩, ⟨fa, h6, e6⟩, ⟨fb, h7, e7⟩, h8, h9, h10⟩ := HR
      obtain ⟨ga, ha1, ha2⟩ := HA
      obtain ⟨gb, hb1, hb2⟩ := HB
      refine ex_iload_n dRule_settle_2 rfl ?_
      refine ex_aload_n dRule_settle_3 rfl ?_
      refine ex_v0 dRule_settle_4 iv_Rule_57 cd_Pairs_count ar_Pairs_count p1 (c_Pairs_count (d := d) HPi) (by dsimp only; omega) (Nat.le_of_ble_eq_true rfl) (Nat.le_refl _) (Nat.le_refl _) (fun E h9 q9 => by simp at q9) (fun v9 hp9 hq => ?_)
      obtain ⟨e, e1⟩ := hq
      cases e
      rw [e1]
      refine ex_icmp_ge (tgt := 155) dRule_settle_7 (by decide) (fun hc => ?_) (fun hc => ?_)
      · exact absurd hc (nI_ge (by omega) (by omega))
      have S8 : Sm hi (xup hi (a + 11) (cI 10 (upd ga i (nI 0)))) (a + 11) (a + 12) := Sm.up (by omega) (by omega)
      have k1 := (S8.2 a (by omega)).trans h1
      have k7 := (S8.2 (a + 12) (by omega)).trans hb1
      refine ex_aload_n dRule_settle_10 rfl ?_
      refine ex_get dRule_settle_11 fg_Rule_36 h1 rfl ?_
      refine ex_iload_n dRule_settle_14 rfl ?_
      refine ex_iconst (v := nI 0) dRule_settle_15 (by decide) ?_
      refine ex_iastore dRule_settle_16 ha1 rfl (by omega) (by omega) ?_
      refine ex_aload_n dRule_settle_17 rfl ?_
      refine ex_get dRule_settle_18 fg_Rule_39 k1 rfl ?_
      refine ex_iload_n dRule_settle_21 rfl ?_
      refine ex_iconst (v := nI 0) dRule_settle_22 (by decide) ?_
      refine ex_iastore dRule_settle_23 k7 rfl (by omega) (by omega) ?_
      refine ex_iconst (v := nI 0) dRule_settle_24 (by decide) ?_
      refine ex_istore_n (L' := [_, _, _, _, _, _]) dRule_settle_25 (by decide) rfl ?_
      have S9 : Sm (xup hi (a + 11) (cI 10 (upd ga i (nI 0)))) (xup (xup hi (a + 11) (cI 10 (upd ga i (nI 0)))) (a + 12) (cI 10 (upd gb i (nI 0)))) (a + 12) (a + 13) := Sm.up (by omega) (by omega)
      have SS := (S8.wide (lo' := a + 11) (hi' := a + 13) (by omega) (by omega)).trans (S9.wide (by omega) (by omega))
      refine inner rs.length 0 _ (by omega) ⟨(SS.2 _ (by omega)).trans h1, ⟨fk, (SS.2 _ (by omega)).trans h2, e2⟩, ⟨fp, (SS.2 _ (by omega)).trans h3, e3⟩, ⟨fc, (SS.2 _ (by omega)).trans h4, e4⟩, ⟨fg, (SS.2 _ (by omega)).trans h5, e5⟩, ⟨_, (S9.2 _ (by omega)).trans (xup_self _ _ _), fun j hj => absurd hj (Nat.not_lt_zero _)⟩, ⟨_, xup_self _ _ _, fun j hj => absurd hj (Nat.not_lt_zero _)⟩, h8, h9, h10⟩ ((IA.snoc ha2).at (S9.2 _ (by omega))) (IA.snoc hb2) (hS.trans SS) _ _
  refine xMet_of (L := [_, _, _, _, _, _]) (by decide) (Nat.le_of_ble_eq_true rfl) rfl ?_
  refine ex_iconst (v := nI 0) dRule_settle_0 (by decide) ?_
  refine ex_istore_n (L' := [_, _, _, _, _, _]) dRule_settle_1 (by decide) rfl ?_
  have H0 := H
  obtain ⟨h1, ⟨fk, h2, e2⟩, ⟨fp, h3, e3⟩, ⟨fc, h4, e4⟩, ⟨fg, h5, e5⟩, ⟨fa, h6, e6⟩, ⟨fb, h7, e7⟩, h8, h9, h10⟩ := H
  exact outer ps.length 0 h (by omega) H0 ⟨fa, h6, fun j hj => absurd hj (Nat.not_lt_zero _)⟩ ⟨fb, h7, fun j hj => absurd hj (Nat.not_lt_zero _)⟩ Sm.rf _ _ _
theorem c_Rule_init (hz : h.1 = a + 1) (h1 : h.2 a = some (.inr (4, [.null, .null, .null, .null, .null, .null, .null, .null, .int 0]))) : xMet l G mRule_init (d + 1) 12 84 [.ref a] h (fun o h' => o = .inl none ∧ Ru h' a [] (fun _ => 0) ∧ Pt h' (a + 1) true (fun _ => 0) (fun _ => 0) 0 0 0 ∧ Pt h' (a + 4) false (fun _ => 0) (fun _ => 0) 0 0 0 ∧ h'.1 = a + 13 ∧ ∀ q : Nat, q < a → h'.2 q = h.2 q) := by
  refine xMet_of (L := [_]) (by decide) (Nat.le_of_ble_eq_true rfl) rfl ?_
  refine ex_aload_n dRule_init_0 rfl ?_
  refine ex_objInit dRule_init_1 oi_Rule_3 oi_1 oi_2 (by decide) ?_
  refine ex_aload_n dRule_init_4 rfl ?_
  refine ex_new dRule_init_5 nw_Rule_9 (Nat.le_of_ble_eq_true rfl) (Nat.le_of_ble_eq_true rfl) ?_
  rw [hz]
  refine ex_dup dRule_init_8 rfl ?_
  refine ex_iconst (v := nI 1) dRule_init_9 (by decide) ?_
  refine ex_i1 dRule_init_10 ii_Rule_11 cd_Patt_init ar_Patt_init (c_Patt_init (d := d) (a := a + 1) (fl := true) (by simp [xnew, hz]) (by simp [xnew, hz])) (by dsimp only; omega) (Nat.le_of_ble_eq_true rfl) (Nat.le_of_ble_eq_true rfl) (Nat.le_of_ble_eq_true rfl) (fun E h9 q9 => by simp at q9) (fun v9 g1 hq => ?_)
  obtain ⟨e, P1, z1, F1⟩ := hq
  cases e
  have b1 : g1.2 a = some (.inr (4, [.null, .null, .null, .null, .null, .null, .null, .null, .int 0])) := by rw [F1 a (by omega)]; simp [xnew, hz, h1]
  have f1 : ∀ q, q < a → g1.2 q = h.2 q := fun q hq => by rw [F1 q (by omega)]; simp [xnew, hz, show q ≠ a + 1 by omega]
  refine ex_put (fs' := [_, _, _, _, _, _, _, _, _]) dRule_init_13 fp_Rule_14 b1 rfl rfl (Nat.le_of_ble_eq_true rfl) rfl ?_
  refine ex_aload_n dRule_init_16 rfl ?_
  have S1 : Sm g1 (xup g1 a (.inr (4, [.ref (a + 1), .null, .null, .null, .null, .null, .null, .null, .int 0]))) a (a + 1) := Sm.up (by omega) (by omega)
  have P1a := P1.sm S1 (by omega)
  have z1a : (xup g1 a (.inr (4, [.ref (a + 1), .null, .null, .null, .null, .null, .null, .null, .int 0]))).1 = a + 4 := z1
  have b1a : (xup g1 a (.inr (4, [.ref (a + 1), .null, .null, .null, .null, .null, .null, .null, .int 0]))).2 a = _ := xup_self _ _ _
  have f1a : ∀ q, q < a → (xup g1 a (.inr (4, [.ref (a + 1), .null, .null, .null, .null, .null, .null, .null, .int 0]))).2 q = h.2 q := fun q hq => (S1.2 q (by omega)).trans (f1 q hq)
  generalize xup g1 a (.inr (4, [.ref (a + 1), .null, .null, .null, .null, .null, .null, .null, .int 0])) = g2 at *
  refine ex_new dRule_init_17 nw_Rule_9 (Nat.le_of_ble_eq_true rfl) (Nat.le_of_ble_eq_true rfl) ?_
  rw [z1a]
  refine ex_dup dRule_init_20 rfl ?_
  refine ex_iconst (v := nI 0) dRule_init_21 (by decide) ?_
  refine ex_i1 dRule_init_22 ii_Rule_11 cd_Patt_init ar_Patt_init (c_Patt_init (d := d) (a := a + 4) (fl := false) (by simp [xnew, z1a]) (by simp [xnew, z1a])) (by dsimp only; omega) (Nat.le_of_ble_eq_true rfl) (Nat.le_of_ble_eq_true rfl) (Nat.le_of_ble_eq_true rfl) (fun E h9 q9 => by simp at q9) (fun v8 g3 hq => ?_)
  obtain ⟨e, P2, z2, F2⟩ := hq
  cases e
  have b2 : g3.2 a = some (.inr (4, [.ref (a + 1), .null, .null, .null, .null, .null, .null, .null, .int 0])) := by rw [F2 a (by omega)]; simp [xnew, z1a, b1a]
  have f2 : ∀ q, q < a → g3.2 q = h.2 q := fun q hq => by rw [F2 q (by omega)]; simp [xnew, z1a, show q ≠ a + 4 by omega, f1a q hq]
  have P1b : Pt g3 (a + 1) true (fun _ => 0) (fun _ => 0) 0 0 0 := by
    obtain ⟨f, g, k1, k2, k3, k4⟩ := P1a
    refine ⟨f, g, ?_, ?_, ?_, k4⟩
    · rw [F2 _ (by omega)]; simp [xnew, z1a, k1]
    · rw [F2 _ (by omega)]; simp [xnew, z1a, k2]
    · rw [F2 _ (by omega)]; simp [xnew, z1a, k3]
  refine ex_put (fs' := [_, _, _, _, _, _, _, _, _]) dRule_init_25 fp_Rule_20 b2 rfl rfl (Nat.le_of_ble_eq_true rfl) rfl ?_
  have S3 : Sm g3 (xup g3 a (.inr (4, [.ref (a + 1), .ref (a + 4), .null, .null, .null, .null, .null, .null, .int 0]))) a (a + 1) := Sm.up (by omega) (by omega)
  have P1c := P1b.sm S3 (by omega)
  have P2c := P2.sm S3 (by omega)
  have z3 : (xup g3 a (.inr (4, [.ref (a + 1), .ref (a + 4), .null, .null, .null, .null, .null, .null, .int 0]))).1 = a + 7 := z2
  have b3 : (xup g3 a (.inr (4, [.ref (a + 1), .ref (a + 4), .null, .null, .null, .null, .null, .null, .int 0]))).2 a = _ := xup_self _ _ _
  have f3 : ∀ q, q < a → (xup g3 a (.inr (4, [.ref (a + 1), .ref (a + 4), .null, .null, .null, .null, .null, .null, .int 0]))).2 q = h.2 q := fun q hq => (S3.2 q (by omega)).trans (f2 q hq)
  generalize xup g3 a (.inr (4, [.ref (a + 1), .ref (a + 4), .null, .null, .null, .null, .null, .null, .int 0])) = k7 at *
  refine ex_aload_n dRule_init_28 rfl ?_
  refine ex_iconst (v := nI 4) dRule_init_29 (by decide) ?_
  refine ex_newi dRule_init_30 aw_int rfl (by omega) (Nat.le_of_ble_eq_true rfl) (Nat.le_of_ble_eq_true rfl) ?_
  rw [z3]
  have ck7 : (xnew k7 (cI 4 (fun _ => 0))).2 a = some (.inr (4, [.ref (a + 1), .ref (a + 4), .null, .null, .null, .null, .null, .null, .int 0])) := by simp [xnew, z3, b3]
  refine ex_put (fs' := [_, _, _, _, _, _, _, _, _]) dRule_init_32 fp_Rule_23 ck7 rfl rfl (Nat.le_of_ble_eq_true rfl) rfl ?_
  have zk8 : (xup (xnew k7 (cI 4 (fun _ => 0))) a (.inr (4, [.ref (a + 1), .ref (a + 4), .ref (a + 7), .null, .null, .null, .null, .null, .int 0]))).1 = a + 8 := by simp [xup, xnew, z3]
  have bk8 : (xup (xnew k7 (cI 4 (fun _ => 0))) a (.inr (4, [.ref (a + 1), .ref (a + 4), .ref (a + 7), .null, .null, .null, .null, .null, .int 0]))).2 a = some (.inr (4, [.ref (a + 1), .ref (a + 4), .ref (a + 7), .null, .null, .null, .null, .null, .int 0])) := xup_self _ _ _
  have fk8 : ∀ q, q < a → (xup (xnew k7 (cI 4 (fun _ => 0))) a (.inr (4, [.ref (a + 1), .ref (a + 4), .ref (a + 7), .null, .null, .null, .null, .null, .int 0]))).2 q = h.2 q := fun q hq => by rw [xup_ne _ _ (by omega), xnew_ne _ (by omega)]; exact f3 q hq
  have ik8 : (xup (xnew k7 (cI 4 (fun _ => 0))) a (.inr (4, [.ref (a + 1), .ref (a + 4), .ref (a + 7), .null, .null, .null, .null, .null, .int 0]))).2 (a + 7) = some (cI 4 (fun _ => 0)) := by rw [xup_ne _ _ (by omega)]; simp [xnew, z3]
  have ok8 : ∀ q, a < q → q < a + 7 → (xup (xnew k7 (cI 4 (fun _ => 0))) a (.inr (4, [.ref (a + 1), .ref (a + 4), .ref (a + 7), .null, .null, .null, .null, .null, .int 0]))).2 q = k7.2 q := fun q h1 h2 => by rw [xup_ne _ _ (by omega)]; simp [xnew, z3, show q ≠ a + 7 by omega]
  generalize xup (xnew k7 (cI 4 (fun _ => 0))) a (.inr (4, [.ref (a + 1), .ref (a + 4), .ref (a + 7), .null, .null, .null, .null, .null, .int 0])) = k8 at *
  refine ex_aload_n dRule_init_35 rfl ?_
  refine ex_iconst (v := nI 4) dRule_init_36 (by decide) ?_
  refine ex_newi dRule_init_37 aw_int rfl (by omega) (Nat.le_of_ble_eq_true rfl) (Nat.le_of_ble_eq_true rfl) ?_
  rw [zk8]
  have ck8 : (xnew k8 (cI 4 (fun _ => 0))).2 a = some (.inr (4, [.ref (a + 1), .ref (a + 4), .ref (a + 7), .null, .null, .null, .null, .null, .int 0])) := by simp [xnew, zk8, bk8]
  refine ex_put (fs' := [_, _, _, _, _, _, _, _, _]) dRule_init_39 fp_Rule_27 ck8 rfl rfl (Nat.le_of_ble_eq_true rfl) rfl ?_
  have zk9 : (xup (xnew k8 (cI 4 (fun _ => 0))) a (.inr (4, [.ref (a + 1), .ref (a + 4), .ref (a + 7), .ref (a + 8), .null, .null, .null, .null, .int 0]))).1 = a + 9 := by simp [xup, xnew, zk8]
  have bk9 : (xup (xnew k8 (cI 4 (fun _ => 0))) a (.inr (4, [.ref (a + 1), .ref (a + 4), .ref (a + 7), .ref (a + 8), .null, .null, .null, .null, .int 0]))).2 a = some (.inr (4, [.ref (a + 1), .ref (a + 4), .ref (a + 7), .ref (a + 8), .null, .null, .null, .null, .int 0])) := xup_self _ _ _
  have fk9 : ∀ q, q < a → (xup (xnew k8 (cI 4 (fun _ => 0))) a (.inr (4, [.ref (a + 1), .ref (a + 4), .ref (a + 7), .ref (a + 8), .null, .null, .null, .null, .int 0]))).2 q = h.2 q := fun q hq => by rw [xup_ne _ _ (by omega), xnew_ne _ (by omega)]; exact fk8 q hq
  have ik9 : (xup (xnew k8 (cI 4 (fun _ => 0))) a (.inr (4, [.ref (a + 1), .ref (a + 4), .ref (a + 7), .ref (a + 8), .null, .null, .null, .null, .int 0]))).2 (a + 8) = some (cI 4 (fun _ => 0)) := by rw [xup_ne _ _ (by omega)]; simp [xnew, zk8]
  have ok9 : ∀ q, a < q → q < a + 8 → (xup (xnew k8 (cI 4 (fun _ => 0))) a (.inr (4, [.ref (a + 1), .ref (a + 4), .ref (a + 7), .ref (a + 8), .null, .null, .null, .null, .int 0]))).2 q = k8.2 q := fun q h1 h2 => by rw [xup_ne _ _ (by omega)]; simp [xnew, zk8, show q ≠ a + 8 by omega]
  generalize xup (xnew k8 (cI 4 (fun _ => 0))) a (.inr (4, [.ref (a + 1), .ref (a + 4), .ref (a + 7), .ref (a + 8), .null, .null, .null, .null, .int 0])) = k9 at *
  refine ex_aload_n dRule_init_42 rfl ?_
  refine ex_iconst (v := nI 4) dRule_init_43 (by decide) ?_
  refine ex_newi dRule_init_44 aw_int rfl (by omega) (Nat.le_of_ble_eq_true rfl) (Nat.le_of_ble_eq_true rfl) ?_
  rw [zk9]
  have ck9 : (xnew k9 (cI 4 (fun _ => 0))).2 a = some (.inr (4, [.ref (a + 1), .ref (a + 4), .ref (a + 7), .ref (a + 8), .null, .null, .null, .null, .int 0])) := by simp [xnew, zk9, bk9]
  refine ex_put (fs' := [_, _, _, _, _, _, _, _, _]) dRule_init_46 fp_Rule_30 ck9 rfl rfl (Nat.le_of_ble_eq_true rfl) rfl ?_
  have zk10 : (xup (xnew k9 (cI 4 (fun _ => 0))) a (.inr (4, [.ref (a + 1), .ref (a + 4), .ref (a + 7), .ref (a + 8), .ref (a + 9), .null, .null, .null, .int 0]))).1 = a + 10 := by simp [xup, xnew, zk9]
  have bk10 : (xup (xnew k9 (cI 4 (fun _ => 0))) a (.inr (4, [.ref (a + 1), .ref (a + 4), .ref (a + 7), .ref (a + 8), .ref (a + 9), .null, .null, .null, .int 0]))).2 a = some (.inr (4, [.ref (a + 1), .ref (a + 4), .ref (a + 7), .ref (a + 8), .ref (a + 9), .null, .null, .null, .int 0])) := xup_self _ _ _
  have fk10 : ∀ q, q < a → (xup (xnew k9 (cI 4 (fun _ => 0))) a (.inr (4, [.ref (a + 1), .ref (a + 4), .ref (a + 7), .ref (a + 8), .ref (a + 9), .null, .null, .null, .int 0]))).2 q = h.2 q := fun q hq => by rw [xup_ne _ _ (by omega), xnew_ne _ (by omega)]; exact fk9 q hq
  have ik10 : (xup (xnew k9 (cI 4 (fun _ => 0))) a (.inr (4, [.ref (a + 1), .ref (a + 4), .ref (a + 7), .ref (a + 8), .ref (a + 9), .null, .null, .null, .int 0]))).2 (a + 9) = some (cI 4 (fun _ => 0)) := by rw [xup_ne _ _ (by omega)]; simp [xnew, zk9]
  have ok10 : ∀ q, a < q → q < a + 9 → (xup (xnew k9 (cI 4 (fun _ => 0))) a (.inr (4, [.ref (a + 1), .ref (a + 4), .ref (a + 7), .ref (a + 8), .ref (a + 9), .null, .null, .null, .int 0]))).2 q = k9.2 q := fun q h1 h2 => by rw [xup_ne _ _ (by omega)]; simp [xnew, zk9, show q ≠ a + 9 by omega]
  generalize xup (xnew k9 (cI 4 (fun _ => 0))) a (.inr (4, [.ref (a + 1), .ref (a + 4), .ref (a + 7), .ref (a + 8), .ref (a + 9), .null, .null, .null, .int 0])) = k10 at *
  refine ex_aload_n dRule_init_49 rfl ?_
  refine ex_iconst (v := nI 4) dRule_init_50 (by decide) ?_
  refine ex_newi dRule_init_51 aw_int rfl (by omega) (Nat.le_of_ble_eq_true rfl) (Nat.le_of_ble_eq_true rfl) ?_
  rw [zk10]
  have ck10 : (xnew k10 (cI 4 (fun _ => 0))).2 a = some (.inr (4, [.ref (a + 1), .ref (a + 4), .ref (a + 7), .ref (a + 8), .ref (a + 9), .null, .null, .null, .int 0])) := by simp [xnew, zk10, bk10]
  refine ex_put (fs' := [_, _, _, _, _, _, _, _, _]) dRule_init_53 fp_Rule_33 ck10 rfl rfl (Nat.le_of_ble_eq_true rfl) rfl ?_
  have zk11 : (xup (xnew k10 (cI 4 (fun _ => 0))) a (.inr (4, [.ref (a + 1), .ref (a + 4), .ref (a + 7), .ref (a + 8), .ref (a + 9), .ref (a + 10), .null, .null, .int 0]))).1 = a + 11 := by simp [xup, xnew, zk10]
  have bk11 : (xup (xnew k10 (cI 4 (fun _ => 0))) a (.inr (4, [.ref (a + 1), .ref (a + 4), .ref (a + 7), .ref (a + 8), .ref (a + 9), .ref (a + 10), .null, .null, .int 0]))).2 a = some (.inr (4, [.ref (a + 1), .ref (a + 4), .ref (a + 7), .ref (a + 8), .ref (a + 9), .ref (a + 10), .null, .null, .int 0])) := xup_self _ _ _
  have fk11 : ∀ q, q < a → (xup (xnew k10 (cI 4 (fun _ => 0))) a (.inr (4, [.ref (a + 1), .ref (a + 4), .ref (a + 7), .ref (a + 8), .ref (a + 9), .ref (a + 10), .null, .null, .int 0]))).2 q = h.2 q := fun q hq => by rw [xup_ne _ _ (by omega), xnew_ne _ (by omega)]; exact fk10 q hq
  have ik11 : (xup (xnew k10 (cI 4 (fun _ => 0))) a (.inr (4, [.ref (a + 1), .ref (a + 4), .ref (a + 7), .ref (a + 8), .ref (a + 9), .ref (a + 10), .null, .null, .int 0]))).2 (a + 10) = some (cI 4 (fun _ => 0)) := by rw [xup_ne _ _ (by omega)]; simp [xnew, zk10]
  have ok11 : ∀ q, a < q → q < a + 10 → (xup (xnew k10 (cI 4 (fun _ => 0))) a (.inr (4, [.ref (a + 1), .ref (a + 4), .ref (a + 7), .ref (a + 8), .ref (a + 9), .ref (a + 10), .null, .null, .int 0]))).2 q = k10.2 q := fun q h1 h2 => by rw [xup_ne _ _ (by omega)]; simp [xnew, zk10, show q ≠ a + 10 by omega]
  generalize xup (xnew k10 (cI 4 (fun _ => 0))) a (.inr (4, [.ref (a + 1), .ref (a + 4), .ref (a + 7), .ref (a + 8), .ref (a + 9), .ref (a + 10), .null, .null, .int 0])) = k11 at *
  refine ex_aload_n dRule_init_56 rfl ?_
  refine ex_bipush (v := nI 10) dRule_init_57 (by decide) ?_
  refine ex_newi dRule_init_59 aw_int rfl (by omega) (Nat.le_of_ble_eq_true rfl) (Nat.le_of_ble_eq_true rfl) ?_
  rw [zk11]
  have ck11 : (xnew k11 (cI 10 (fun _ => 0))).2 a = some (.inr (4, [.ref (a + 1), .ref (a + 4), .ref (a + 7), .ref (a + 8), .ref (a + 9), .ref (a + 10), .null, .null, .int 0])) := by simp [xnew, zk11, bk11]
  refine ex_put (fs' := [_, _, _, _, _, _, _, _, _]) dRule_init_61 fp_Rule_36 ck11 rfl rfl (Nat.le_of_ble_eq_true rfl) rfl ?_
  have zk12 : (xup (xnew k11 (cI 10 (fun _ => 0))) a (.inr (4, [.ref (a + 1), .ref (a + 4), .ref (a + 7), .ref (a + 8), .ref (a + 9), .ref (a + 10), .ref (a + 11), .null, .int 0]))).1 = a + 12 := by simp [xup, xnew, zk11]
  have bk12 : (xup (xnew k11 (cI 10 (fun _ => 0))) a (.inr (4, [.ref (a + 1), .ref (a + 4), .ref (a + 7), .ref (a + 8), .ref (a + 9), .ref (a + 10), .ref (a + 11), .null, .int 0]))).2 a = some (.inr (4, [.ref (a + 1), .ref (a + 4), .ref (a + 7), .ref (a + 8), .ref (a + 9), .ref (a + 10), .ref (a + 11), .null, .int 0])) := xup_self _ _ _
  have fk12 : ∀ q, q < a → (xup (xnew k11 (cI 10 (fun _ => 0))) a (.inr (4, [.ref (a + 1), .ref (a + 4), .ref (a + 7), .ref (a + 8), .ref (a + 9), .ref (a + 10), .ref (a + 11), .null, .int 0]))).2 q = h.2 q := fun q hq => by rw [xup_ne _ _ (by omega), xnew_ne _ (by omega)]; exact fk11 q hq
  have ik12 : (xup (xnew k11 (cI 10 (fun _ => 0))) a (.inr (4, [.ref (a + 1), .ref (a + 4), .ref (a + 7), .ref (a + 8), .ref (a + 9), .ref (a + 10), .ref (a + 11), .null, .int 0]))).2 (a + 11) = some (cI 10 (fun _ => 0)) := by rw [xup_ne _ _ (by omega)]; simp [xnew, zk11]
  have ok12 : ∀ q, a < q → q < a + 11 → (xup (xnew k11 (cI 10 (fun _ => 0))) a (.inr (4, [.ref (a + 1), .ref (a + 4), .ref (a + 7), .ref (a + 8), .ref (a + 9), .ref (a + 10), .ref (a + 11), .null, .int 0]))).2 q = k11.2 q := fun q h1 h2 => by rw [xup_ne _ _ (by omega)]; simp [xnew, zk11, show q ≠ a + 11 by omega]
  generalize xup (xnew k11 (cI 10 (fun _ => 0))) a (.inr (4, [.ref (a + 1), .ref (a + 4), .ref (a + 7), .ref (a + 8), .ref (a + 9), .ref (a + 10), .ref (a + 11), .null, .int 0])) = k12 at *
  refine ex_aload_n dRule_init_64 rfl ?_
  refine ex_bipush (v := nI 10) dRule_init_65 (by decide) ?_
  refine ex_newi dRule_init_67 aw_int rfl (by omega) (Nat.le_of_ble_eq_true rfl) (Nat.le_of_ble_eq_true rfl) ?_
  rw [zk12]
  have ck12 : (xnew k12 (cI 10 (fun _ => 0))).2 a = some (.inr (4, [.ref (a + 1), .ref (a + 4), .ref (a + 7), .ref (a + 8), .ref (a + 9), .ref (a + 10), .ref (a + 11), .null, .int 0])) := by simp [xnew, zk12, bk12]
  refine ex_put (fs' := [_, _, _, _, _, _, _, _, _]) dRule_init_69 fp_Rule_39 ck12 rfl rfl (Nat.le_of_ble_eq_true rfl) rfl ?_
  have zk13 : (xup (xnew k12 (cI 10 (fun _ => 0))) a (.inr (4, [.ref (a + 1), .ref (a + 4), .ref (a + 7), .ref (a + 8), .ref (a + 9), .ref (a + 10), .ref (a + 11), .ref (a + 12), .int 0]))).1 = a + 13 := by simp [xup, xnew, zk12]
  have bk13 : (xup (xnew k12 (cI 10 (fun _ => 0))) a (.inr (4, [.ref (a + 1), .ref (a + 4), .ref (a + 7), .ref (a + 8), .ref (a + 9), .ref (a + 10), .ref (a + 11), .ref (a + 12), .int 0]))).2 a = some (.inr (4, [.ref (a + 1), .ref (a + 4), .ref (a + 7), .ref (a + 8), .ref (a + 9), .ref (a + 10), .ref (a + 11), .ref (a + 12), .int 0])) := xup_self _ _ _
  have fk13 : ∀ q, q < a → (xup (xnew k12 (cI 10 (fun _ => 0))) a (.inr (4, [.ref (a + 1), .ref (a + 4), .ref (a + 7), .ref (a + 8), .ref (a + 9), .ref (a + 10), .ref (a + 11), .ref (a + 12), .int 0]))).2 q = h.2 q := fun q hq => by rw [xup_ne _ _ (by omega), xnew_ne _ (by omega)]; exact fk12 q hq
  have ik13 : (xup (xnew k12 (cI 10 (fun _ => 0))) a (.inr (4, [.ref (a + 1), .ref (a + 4), .ref (a + 7), .ref (a + 8), .ref (a + 9), .ref (a + 10), .ref (a + 11), .ref (a + 12), .int 0]))).2 (a + 12) = some (cI 10 (fun _ => 0)) := by rw [xup_ne _ _ (by omega)]; simp [xnew, zk12]
  have ok13 : ∀ q, a < q → q < a + 12 → (xup (xnew k12 (cI 10 (fun _ => 0))) a (.inr (4, [.ref (a + 1), .ref (a + 4), .ref (a + 7), .ref (a + 8), .ref (a + 9), .ref (a + 10), .ref (a + 11), .ref (a + 12), .int 0]))).2 q = k12.2 q := fun q h1 h2 => by rw [xup_ne _ _ (by omega)]; simp [xnew, zk12, show q ≠ a + 12 by omega]
  generalize xup (xnew k12 (cI 10 (fun _ => 0))) a (.inr (4, [.ref (a + 1), .ref (a + 4), .ref (a + 7), .ref (a + 8), .ref (a + 9), .ref (a + 10), .ref (a + 11), .ref (a + 12), .int 0])) = k13 at *
  have keep : ∀ q, a < q → q < a + 7 → k13.2 q = k7.2 q := fun q h1 h2 => by rw [ok13 q h1 (by omega), ok12 q h1 (by omega), ok11 q h1 (by omega), ok10 q h1 (by omega), ok9 q h1 (by omega), ok8 q h1 (by omega)]
  refine ex_vret dRule_init_72 rfl (Nat.le_of_ble_eq_true rfl) (Nat.le_of_ble_eq_true rfl) ⟨rfl, ⟨bk13, ⟨_, by rw [ok13 _ (by omega) (by omega), ok12 _ (by omega) (by omega), ok11 _ (by omega) (by omega), ok10 _ (by omega) (by omega), ok9 _ (by omega) (by omega)]; exact ik8, fun _ _ => rfl⟩, ⟨_, by rw [ok13 _ (by omega) (by omega), ok12 _ (by omega) (by omega), ok11 _ (by omega) (by omega), ok10 _ (by omega) (by omega)]; exact ik9, fun _ _ => rfl⟩, ⟨_, by rw [ok13 _ (by omega) (by omega), ok12 _ (by omega) (by omega), ok11 _ (by omega) (by omega)]; exact ik10, fun _ _ => rfl⟩, ⟨_, by rw [ok13 _ (by omega) (by omega), ok12 _ (by omega) (by omega)]; exact ik11, fun _ _ => rfl⟩, ⟨_, by rw [ok13 _ (by omega) (by omega)]; exact ik12, fun _ _ => rfl⟩, ⟨_, ik13, fun _ _ => rfl⟩, by simp, fun _ _ => Nat.zero_le _, fun q hq => by simp at hq⟩, ?_, ?_, zk13, fk13⟩
  · obtain ⟨f, g, k1, k2, k3, k4⟩ := P1c
    exact ⟨f, g, (keep _ (by omega) (by omega)).trans k1, (keep _ (by omega) (by omega)).trans k2, (keep _ (by omega) (by omega)).trans k3, k4⟩
  · obtain ⟨f, g, k1, k2, k3, k4⟩ := P2c
    exact ⟨f, g, (keep _ (by omega) (by omega)).trans k1, (keep _ (by omega) (by omega)).trans k2, (keep _ (by omega) (by omega)).trans k3, k4⟩
end SETTLE
