/-! The reference: pair, rule, context, element. -/
abbrev xMA : Type := xV × List xEn × List Nat × List Nat × List (List Nat × List Nat) × List Nat
def Rm (μ : xMu) (A : xMA) : Prop := Rv μ A.1 ∧ Re μ A.2.1 ∧ Rl μ A.2.2.1 A.2.2.2.1 ∧ Rp μ A.2.2.2.2.1 ∧ Rz μ A.2.2.2.2.2
def thr1 (o : xO) : Int32 := match o with
  | .inl _ => 0
  | .inr E => if E = eS then 2 else 1
/-- what a call of the reference answers to r: thrown, the new state, and the answer -/
def Ms (th : xO → Int32) (r : xO × xMA) (o : xO) (μ' : xMu) : Prop := μ' 0 0 = th r.1 ∧ Rm μ' r.2 ∧ (∃ v : Int32, o = rI v) ∧ ∀ v, r.1 = .inl v → o = .inl v
def PB (ps : List (Nat × Nat)) : Prop := ∀ i, (ps.filter (fun z => z.1 == i)).length ≤ (if i = 0 then 2 else 3)
theorem Rz.nil {μ : xMu} (h : μ 0 19 = 0) : Rz μ [] := ⟨h, fun j hj => absurd hj (Nat.not_lt_zero _), by simp, fun k hk => by simp at hk⟩
theorem Rz.eq {μ μ' : xMu} {ks : List Nat} (H : Rz μ ks) (e : ∀ a b : Nat, (a = 0 ∧ b = 19) ∨ (16 ≤ a ∧ a ≤ 19) → μ' a b = μ a b) : Rz μ' ks := by
  obtain ⟨h1, h2, h3⟩ := H
  exact ⟨(e _ _ (by omega)).trans h1, fun j hj => ⟨(e _ _ (by omega)).trans (h2 j hj).1, (e _ _ (by omega)).trans (h2 j hj).2.1, (e _ _ (by omega)).trans (h2 j hj).2.2.1, (e _ _ (by omega)).trans (h2 j hj).2.2.2⟩, h3⟩
theorem Rl.eq {μ μ' : xMu} {w u : List Nat} (H : Rl μ w u) (e : ∀ a b : Nat, a = 14 ∨ a = 15 → μ' a b = μ a b) : Rl μ' w u := by
  obtain ⟨h1, h2, h3, h4, h5⟩ := H
  exact ⟨(e _ _ (by omega)).trans h1, (e _ _ (by omega)).trans h2, fun i hi => (e _ _ (by omega)).trans (h3 i hi), fun i hi => (e _ _ (by omega)).trans (h4 i hi), h5⟩
theorem Rp.eq {μ μ' : xMu} {ss : List (List Nat × List Nat)} (H : Rp μ ss) (e : ∀ a b : Nat, (a = 0 ∧ b = 29) ∨ a = 24 ∨ a = 25 → μ' a b = μ a b) : Rp μ' ss := by
  obtain ⟨h1, h2, h3⟩ := H
  refine ⟨(e _ _ (by omega)).trans h1, h2, fun j hj => ?_⟩
  obtain ⟨k1, k2, k3, k4, k5⟩ := h3 j hj
  exact ⟨(e _ _ (by omega)).trans k1, (e _ _ (by omega)).trans k2, fun i hi => (e _ _ (by omega)).trans (k3 i hi), fun i hi => (e _ _ (by omega)).trans (k4 i hi), k5⟩
theorem Rm.th {μ : xMu} {A : xMA} {v : Int32} (H : Rm μ A) : Rm (mup μ 0 0 v) A := by
  have e : ∀ a b : Nat, ¬ (a = 0 ∧ b = 0) → mup μ 0 0 v a b = μ a b := fun a b h => mup_ne _ _ (by omega)
  exact ⟨H.1.eq (fun a b h => e a b (by omega)), H.2.1.eq (fun a b h => e a b (by omega)), H.2.2.1.eq (fun a b h => e a b (by omega)), H.2.2.2.1.eq (fun a b h => e a b (by omega)), H.2.2.2.2.eq (fun a b h => e a b (by omega))⟩
def mdPair (A : xMA) (a b : Int32) : xO × xMA :=
  if ¬ (sg0 a = true ∧ sg0 b = true) then (.inr eA, A)
  else if (a.toInt.toNat = 0 ∧ b.toInt.toNat = 0) ∨ (a.toInt.toNat, b.toInt.toNat) ∈ A.1.1 then (.inr eA, A)
  else if A.1.1.length < 10 ∧ (A.1.1.filter (fun z => z.1 == a.toInt.toNat)).length < (if a.toInt.toNat = 0 then 2 else 3) then (rI (nI A.1.1.length), ((A.1.1 ++ [(a.toInt.toNat, b.toInt.toNat)], A.1.2), A.2.1, A.2.2.1, A.2.2.2.1, A.2.2.2.2.1, []))
  else (.inr eS, A)
def mdRule (A : xMA) (k p : Int32) : xO × xMA :=
  if ¬ (0 ≤ k.toInt ∧ k.toInt < 4 ∧ 0 ≤ p.toInt ∧ p.toInt < A.1.1.length) then (.inr eA, A)
  else if A.1.2.1.length < 4 then (rI (nI A.1.2.1.length), ((A.1.1, A.1.2.1 ++ [(k.toInt.toNat, p.toInt.toNat)], A.1.2.2), A.2.1, A.2.2.1, A.2.2.2.1, A.2.2.2.2.1, []))
  else (.inr eS, A)
def mdCtx (A : xMA) (r : Int32) (t1 t2 : Bool) : xO × xMA :=
  if ¬ (0 ≤ r.toInt ∧ r.toInt < A.1.2.1.length) then (.inr eA, A)
  else if A.1.2.2.1 r.toInt.toNat < 2 then (rI (nI (A.1.2.2.1 r.toInt.toNat + 1)), ((A.1.1, A.1.2.1, va_up A.1.2.2.1 r.toInt.toNat (A.1.2.2.1 r.toInt.toNat + 1), va_up (va_up A.1.2.2.2.1 (2 * (2 * r.toInt.toNat + A.1.2.2.1 r.toInt.toNat)) t1) (2 * (2 * r.toInt.toNat + A.1.2.2.1 r.toInt.toNat) + 1) t2, A.1.2.2.2.2), A.2.1, A.2.2.1, A.2.2.2.1, A.2.2.2.2.1, []))
  else (.inr eS, A)
def elp (A : xMA) (r : Nat) (bh : Bool) : Nat := 2 * (2 * r + A.1.2.2.1 r - 1) + (if bh then 1 else 0)
def mdEl (A : xMA) (r : Int32) (bh : Bool) (s : Int32) (st : Bool) : xO × xMA :=
  if ¬ (0 ≤ r.toInt ∧ r.toInt < A.1.2.1.length) then (.inr eA, A)
  else if ¬ (0 ≤ s.toInt ∧ s.toInt.toNat < 2 ^ A.1.1.length) then (.inr eA, A)
  else if A.1.2.2.1 r.toInt.toNat = 0 then (.inr eS, A)
  else if A.1.2.2.2.2.1 (elp A r.toInt.toNat bh) < 2 then
    (rI (nI (A.1.2.2.2.2.1 (elp A r.toInt.toNat bh) + 1)), ((A.1.1, A.1.2.1, A.1.2.2.1, A.1.2.2.2.1, va_up A.1.2.2.2.2.1 (elp A r.toInt.toNat bh) (A.1.2.2.2.2.1 (elp A r.toInt.toNat bh) + 1), va_up A.1.2.2.2.2.2.1 (2 * elp A r.toInt.toNat bh + A.1.2.2.2.2.1 (elp A r.toInt.toNat bh)) s.toInt.toNat, va_up A.1.2.2.2.2.2.2 (2 * elp A r.toInt.toNat bh + A.1.2.2.2.2.1 (elp A r.toInt.toNat bh)) st), A.2.1, A.2.2.1, A.2.2.2.1, A.2.2.2.2.1, []))
  else (.inr eS, A)
section MSET
variable {l : Launch} {G : xG} {d m : Nat} {μ : xMu} {A : xMA}
theorem c_Mod_pair {a b : Int32} (hPB : PB A.1.1) (H : Rm μ A) : Mc l G mMod_pair (d + 1) m [.ref m, .int a, .int b] μ (Ms thr1 (mdPair A a b)) := by
  have H0 := H
  obtain ⟨HV, HE, HL, HP, HZ⟩ := H
  obtain ⟨v1, v2, v3, v4, v5, v6, v7, v8, v9, v10, v11, v12, v13, v14⟩ := id HV
  have t143 : ∀ (th : Nat) x3 x4 x5, th ≤ 2 → nI th = thr1 (mdPair A a b).1 → (th ≠ 0 → (mdPair A a b).2 = A ∧ ∀ v, (mdPair A a b).1 ≠ .inl v) → (th = 0 → mdPair A a b = (rI (nI A.1.1.length), ((A.1.1 ++ [(a.toInt.toNat, b.toInt.toNat)], A.1.2), A.2.1, A.2.2.1, A.2.2.2.1, A.2.2.2.2.1, [])) ∧ A.1.1.length < 10 ∧ a = nI a.toInt.toNat ∧ b = nI b.toInt.toNat ∧ a.toInt.toNat < 8 ∧ b.toInt.toNat < 8) → Mj (l, G, d + 1, m, Ms thr1 (mdPair A a b)) mMod_pair 143 [some (.ref m), some (.int a), some (.int b), x3, x4, x5] [.int (nI th), .ref m] μ := by
    intro th x3 x4 x5 hth hthr hbad hgood
    refine mj_put dMod_pair_143 (fp_Mod_107 _) (by decide) ?_
    refine mj_aload_n dMod_pair_146 rfl ?_
    refine mj_get dMod_pair_147 fg_Mod_107 rfl ?_
    rw [mup_s]
    refine mj_if_eq (tgt := 155) dMod_pair_150 (by decide) (fun hc => ?_) (fun hc => ?_)
    rotate_left
    · have hne : th ≠ 0 := fun z => hc (by rw [z]; rfl)
      obtain ⟨hA, hO⟩ := hbad hne
      refine mj_iconst (v := nI 0) dMod_pair_153 (by decide) ?_
      exact mj_iret dMod_pair_154 rfl ⟨by rw [mup_s]; exact hthr, by rw [hA]; exact H0.th, ⟨_, rfl⟩, fun v hv => absurd hv (hO v)⟩
    have hz : th = 0 := (nI_eq (b := 0) (by omega) (by omega)).mp hc
    obtain ⟨hop, hl, ea, eb, ha8, hb8⟩ := hgood hz
    have g1 : mup μ 0 0 (nI th) 0 1 = nI A.1.1.length := by rw [mup_j _ _ (by decide)]; exact v1
    refine mj_aload_n dMod_pair_155 rfl ?_
    refine mj_get dMod_pair_156 fg_Mod_7 rfl ?_
    refine mj_aload_n dMod_pair_159 rfl ?_
    refine mj_get dMod_pair_160 fg_Mod_115 rfl ?_
    refine mj_iload_n dMod_pair_163 rfl ?_
    refine mj_iastore dMod_pair_164 (by decide) g1 (show _ < 10 by omega) (by decide) ?_
    refine mj_aload_n dMod_pair_165 rfl ?_
    refine mj_get dMod_pair_166 fg_Mod_13 rfl ?_
    refine mj_aload_n dMod_pair_169 rfl ?_
    refine mj_get dMod_pair_170 fg_Mod_115 rfl ?_
    refine mj_iload_n dMod_pair_173 rfl ?_
    refine mj_iastore dMod_pair_174 (by decide) (by rw [mup_k _ _ (by decide)]; exact g1) (show _ < 10 by omega) (by decide) ?_
    refine mj_aload_n dMod_pair_175 rfl ?_
    refine mj_dup dMod_pair_176 rfl ?_
    refine mj_get dMod_pair_177 fg_Mod_115 rfl ?_
    refine mj_iconst (v := nI 1) dMod_pair_180 (by decide) ?_
    rw [show mup (mup (mup μ 0 0 (nI th)) 1 A.1.1.length a) 2 A.1.1.length b 0 1 = nI A.1.1.length from by rw [mup_k _ _ (by decide), mup_k _ _ (by decide)]; exact g1]
    refine mj_iadd dMod_pair_181 ?_
    rw [show nI A.1.1.length + nI 1 = nI (A.1.1.length + 1) from nI_add _ _]
    refine mj_put dMod_pair_182 (fp_Mod_115 _) (by decide) ?_
    refine mj_aload_n dMod_pair_185 rfl ?_
    refine mj_iconst (v := nI 0) dMod_pair_186 (by decide) ?_
    refine mj_put dMod_pair_187 (fp_Mod_118 _) (by decide) ?_
    refine mj_aload_n dMod_pair_190 rfl ?_
    refine mj_get dMod_pair_191 fg_Mod_115 rfl ?_
    refine mj_iconst (v := nI 1) dMod_pair_194 (by decide) ?_
    rw [show mup (mup (mup (mup (mup μ 0 0 (nI th)) 1 A.1.1.length a) 2 A.1.1.length b) 0 1 (nI (A.1.1.length + 1))) 0 19 (nI 0) 0 1 = nI (A.1.1.length + 1) from by rw [mup_j _ _ (by decide), mup_s]]
    refine mj_isub dMod_pair_195 ?_
    rw [show nI (A.1.1.length + 1) - nI 1 = nI A.1.1.length from pk_sub (a := A.1.1.length + 1) (b := 1) (by omega)]
    have hun : ∀ x y : Nat, ¬ ((x = 0 ∧ (y = 0 ∨ y = 1 ∨ y = 19)) ∨ x = 1 ∨ x = 2) → mup (mup (mup (mup (mup μ 0 0 (nI th)) 1 A.1.1.length a) 2 A.1.1.length b) 0 1 (nI (A.1.1.length + 1))) 0 19 (nI 0) x y = μ x y := fun x y h => by
      rw [mup_ne _ _ (by omega), mup_ne _ _ (by omega), mup_ne _ _ (by omega), mup_ne _ _ (by omega), mup_ne _ _ (by omega)]
    refine mj_iret dMod_pair_196 rfl ⟨?_, ?_, ⟨_, rfl⟩, fun v hv => ?_⟩
    · rw [mup_j _ _ (by decide), mup_j _ _ (by decide), mup_k _ _ (by decide), mup_k _ _ (by decide), mup_s]; exact hthr
    · rw [hop]
      refine ⟨⟨?_, (hun _ _ (by omega)).trans v2, fun j hj => ?_, fun j hj => ?_, fun j hj => (hun _ _ (by omega)).trans (v5 j hj), fun j hj => ⟨(hun _ _ (by omega)).trans (v6 j hj).1, (hun _ _ (by omega)).trans (v6 j hj).2⟩, fun j hj => ⟨(hun _ _ (by omega)).trans (v7 j hj).1, (hun _ _ (by omega)).trans (v7 j hj).2⟩, by simp; omega, fun z hz9 => ?_, v10, fun z hz9 => ?_, v12, v13, v14⟩, HE.eq (fun x y h => hun x y (by omega)), HL.eq (fun x y h => hun x y (by omega)), HP.eq (fun x y h => hun x y (by omega)), Rz.nil (mup_s _ _ _ _)⟩
      · rw [mup_j _ _ (by decide), mup_s, List.length_append]; rfl
      · dsimp only
        by_cases e : j = A.1.1.length
        · subst e
          rw [getD_snoc]
          exact ⟨by rw [mup_k _ _ (by decide), mup_k _ _ (by decide), mup_k _ _ (by decide), mup_s]; exact ea, by rw [mup_k _ _ (by decide), mup_k _ _ (by decide), mup_s]; exact eb⟩
        · have hj' : j < A.1.1.length := by rw [List.length_append, List.length_singleton] at hj; omega
          rw [getD_snoc' e]
          exact ⟨by rw [mup_k _ _ (by decide), mup_k _ _ (by decide), mup_k _ _ (by decide), mup_j _ _ e, mup_k _ _ (by decide)]; exact (v3 j hj').1, by rw [mup_k _ _ (by decide), mup_k _ _ (by decide), mup_j _ _ e, mup_k _ _ (by decide), mup_k _ _ (by decide)]; exact (v3 j hj').2⟩
      · exact ⟨(hun _ _ (by omega)).trans (v4 j hj).1, (hun _ _ (by omega)).trans (v4 j hj).2⟩
      · rcases List.mem_append.mp hz9 with z1 | z1
        · exact v9 z z1
        · rw [List.mem_singleton.mp z1]; exact ⟨ha8, hb8⟩
      · have := v11 z hz9
        exact ⟨this.1, by rw [List.length_append]; omega⟩
    · rw [hop] at hv; exact hv
  have t106 : ∀ (bad : Bool) (same : Nat) x5, bad = ((!(sg0 a) || !(sg0 b) || decide (a = 0 ∧ b = 0)) || A.1.1.any (fun z : Nat × Nat => decide (nI z.1 = a ∧ nI z.2 = b))) → same = (A.1.1.filter (fun z : Nat × Nat => decide (nI z.1 = a))).length → Mj (l, G, d + 1, m, Ms thr1 (mdPair A a b)) mMod_pair 106 [some (.ref m), some (.int a), some (.int b), some (.int (bI bad)), some (.int (nI (same))), x5] [] μ := by
    intro bad same x5 hbad hsame
    have hs10 : same ≤ 10 := by rw [hsame]; exact Nat.le_trans (List.length_filter_le _ _) v8
    have hbadT : bad = true → (mdPair A a b) = (.inr eA, A) := by
      intro hb9
      rw [hb9] at hbad
      unfold mdPair
      by_cases q1 : sg0 a = true ∧ sg0 b = true
      · rw [if_neg (fun z => z q1)]
        have ha' : 0 ≤ a.toInt ∧ a.toInt ≤ 7 := by simpa [sg0] using q1.1
        have hb' : 0 ≤ b.toInt ∧ b.toInt ≤ 7 := by simpa [sg0] using q1.2
        refine if_pos ?_
        have hbad := hbad.symm
        rw [q1.1, q1.2] at hbad
        simp only [Bool.not_true, Bool.false_or, Bool.or_eq_true, decide_eq_true_eq, List.any_eq_true] at hbad
        rcases hbad with ⟨z1, z2⟩ | ⟨z, hz, z1, z2⟩
        · rw [eq0] at z1 z2; exact Or.inl ⟨by omega, by omega⟩
        · refine Or.inr ?_
          have hz8 := v9 z hz
          have e1 : a.toInt = (z.1 : Int) := by rw [← z1]; exact nI_toInt (by omega)
          have e2 : b.toInt = (z.2 : Int) := by rw [← z2]; exact nI_toInt (by omega)
          rw [e1, e2]
          exact hz
      · rw [if_pos q1]
    have hbadF : bad = false → sg0 a = true ∧ sg0 b = true ∧ ¬ ((a.toInt.toNat = 0 ∧ b.toInt.toNat = 0) ∨ (a.toInt.toNat, b.toInt.toNat) ∈ A.1.1) := by
      intro hb9
      rw [hb9] at hbad
      have hbad := hbad.symm
      rw [Bool.or_eq_false_iff, Bool.or_eq_false_iff, Bool.or_eq_false_iff] at hbad
      obtain ⟨⟨⟨x1, x2⟩, x3⟩, x4⟩ := hbad
      have y1 : sg0 a = true := by simpa using x1
      have y2 : sg0 b = true := by simpa using x2
      have ha' : 0 ≤ a.toInt ∧ a.toInt ≤ 7 := by simpa [sg0] using y1
      have hb' : 0 ≤ b.toInt ∧ b.toInt ≤ 7 := by simpa [sg0] using y2
      refine ⟨y1, y2, fun z => ?_⟩
      rcases z with z | z
      · have x3 := of_decide_eq_false x3
        exact x3 ⟨by rw [eq0]; omega, by rw [eq0]; omega⟩
      · rw [List.any_eq_false] at x4
        exact x4 _ z (decide_eq_true ⟨(iv_of ha'.1).1.symm, (iv_of hb'.1).1.symm⟩)
    refine mj_aload_n dMod_pair_106 rfl ?_
    refine mj_iload_n dMod_pair_107 rfl ?_
    refine mj_if_eq (tgt := 115) dMod_pair_108 (by decide) (fun hc => ?_) (fun hc => ?_)
    rotate_left
    · have q := hbadT (bI_1 hc)
      refine mj_iconst (v := nI 1) dMod_pair_111 (by decide) ?_
      refine mj_goto (tgt := 143) dMod_pair_112 (by decide) ?_
      exact t143 1 _ _ _ (by omega) (by rw [q]; rfl) (fun _ => by rw [q]; exact ⟨rfl, fun v z => by cases z⟩) (fun z => by omega)
    obtain ⟨y1, y2, y3⟩ := hbadF (bI_0.mp hc)
    have ha' : 0 ≤ a.toInt ∧ a.toInt ≤ 7 := by simpa [sg0] using y1
    have hb' : 0 ≤ b.toInt ∧ b.toInt ≤ 7 := by simpa [sg0] using y2
    have ea := iv_of ha'.1
    have eb := iv_of hb'.1
    have hfe : (A.1.1.filter (fun z : Nat × Nat => decide (nI z.1 = a))).length = (A.1.1.filter (fun z => z.1 == a.toInt.toNat)).length := by
      congr 1
      refine List.filter_congr (fun z hz => ?_)
      have hz8 := (v9 z hz).1
      rw [Bool.eq_iff_iff, decide_eq_true_eq, beq_iff_eq]
      constructor
      · intro e; rw [← e, nI_toInt (by omega)]; omega
      · intro e; rw [e]; exact ea.1.symm
    have hpb := hPB a.toInt.toNat
    have u1 : mdPair A a b = (if A.1.1.length < 10 ∧ (A.1.1.filter (fun z => z.1 == a.toInt.toNat)).length < (if a.toInt.toNat = 0 then 2 else 3) then (rI (nI A.1.1.length), ((A.1.1 ++ [(a.toInt.toNat, b.toInt.toNat)], A.1.2), A.2.1, A.2.2.1, A.2.2.2.1, A.2.2.2.2.1, [])) else (.inr eS, A)) := by unfold mdPair; rw [if_neg (fun z => z ⟨y1, y2⟩), if_neg y3]
    have full : ∀ x3 x4 x5, ¬ (A.1.1.length < 10 ∧ (A.1.1.filter (fun z => z.1 == a.toInt.toNat)).length < (if a.toInt.toNat = 0 then 2 else 3)) → Mj (l, G, d + 1, m, Ms thr1 (mdPair A a b)) mMod_pair 138 [some (.ref m), some (.int a), some (.int b), x3, x4, x5] [.ref m] μ := by
      intro x3 x4 x5 q
      rw [if_neg q] at u1
      refine mj_iconst (v := nI 2) dMod_pair_138 (by decide) ?_
      refine mj_goto (tgt := 143) dMod_pair_139 (by decide) ?_
      exact t143 2 _ _ _ (by omega) (by rw [u1]; rfl) (fun _ => by rw [u1]; exact ⟨rfl, fun v z => by cases z⟩) (fun z => by omega)
    refine mj_aload_n dMod_pair_115 rfl ?_
    refine mj_get dMod_pair_116 fg_Mod_115 rfl ?_
    refine mj_bipush (v := nI 10) dMod_pair_119 (by decide) ?_
    rw [v1]
    refine mj_icmp_eq (tgt := 138) dMod_pair_121 (by decide) (fun hc2 => ?_) (fun hc2 => ?_)
    · have := (nI_eq (by omega) (by omega)).mp hc2
      exact full _ _ _ (by omega)
    have hl : A.1.1.length < 10 := by
      have : A.1.1.length ≠ 10 := fun z => hc2 (by rw [z])
      omega
    have t135 : ∀ lim : Nat, lim ≤ 3 → lim = (if a.toInt.toNat = 0 then 2 else 3) → Mj (l, G, d + 1, m, Ms thr1 (mdPair A a b)) mMod_pair 135 [some (.ref m), some (.int a), some (.int b), some (.int (bI bad)), some (.int (nI (same))), x5] [.int (nI lim), .int (nI same), .ref m] μ := by
      intro lim hlim9 hlim
      refine mj_icmp_ne (tgt := 142) dMod_pair_135 (by decide) (fun hc3 => ?_) (fun hc3 => ?_)
      · have hne : same ≠ lim := fun z => hc3 (by rw [z])
        have hrm : A.1.1.length < 10 ∧ (A.1.1.filter (fun z => z.1 == a.toInt.toNat)).length < (if a.toInt.toNat = 0 then 2 else 3) := ⟨hl, by rw [← hfe, ← hsame, ← hlim]; rw [← hfe, ← hsame, ← hlim] at hpb; omega⟩
        rw [if_pos hrm] at u1
        refine mj_iconst (v := nI 0) dMod_pair_142 (by decide) ?_
        exact t143 0 _ _ _ (by omega) (by rw [u1]; rfl) (fun z => absurd rfl z) (fun _ => ⟨u1, hl, ea.1, eb.1, by omega, by omega⟩)
      have he : same = lim := (nI_eq (by omega) (by omega)).mp hc3
      exact full _ _ _ (by rw [← hfe, ← hsame, ← hlim, he]; omega)
    refine mj_iload dMod_pair_124 rfl ?_
    refine mj_iload_n dMod_pair_126 rfl ?_
    refine mj_if_ne (tgt := 134) dMod_pair_127 (by decide) (fun hc3 => ?_) (fun hc3 => ?_)
    · refine mj_iconst (v := nI 3) dMod_pair_134 (by decide) ?_
      exact t135 3 (by omega) (by rw [if_neg (fun z => hc3 (by rw [eq0]; omega))])
    · have hc3 := eq0.mp hc3
      refine mj_iconst (v := nI 2) dMod_pair_130 (by decide) ?_
      refine mj_goto (tgt := 135) dMod_pair_131 (by decide) ?_
      exact t135 2 (by omega) (by rw [if_pos (by omega)])
  have loop : ∀ (j i : Nat) (bad : Bool) (same : Nat), i + j = A.1.1.length → bad = ((!(sg0 a) || !(sg0 b) || decide (a = 0 ∧ b = 0)) || (A.1.1.take i).any (fun z : Nat × Nat => decide (nI z.1 = a ∧ nI z.2 = b))) → same = ((A.1.1.take i).filter (fun z : Nat × Nat => decide (nI z.1 = a))).length → Mj (l, G, d + 1, m, Ms thr1 (mdPair A a b)) mMod_pair 38 [some (.ref m), some (.int a), some (.int b), some (.int (bI bad)), some (.int (nI (same))), some (.int (nI (i)))] [] μ := by
    intro j
    induction j with
    | zero =>
      intro i bad same hij hbad hsame
      rw [List.take_of_length_le (by omega)] at hbad hsame
      refine mj_iload dMod_pair_38 rfl ?_
      refine mj_aload_n dMod_pair_40 rfl ?_
      refine mj_get dMod_pair_41 fg_Mod_115 rfl ?_
      rw [v1]
      refine mj_icmp_ge (tgt := 106) dMod_pair_44 (by decide) (fun hc => ?_) (fun hc => ?_)
      · exact t106 bad same _ hbad hsame
      · exact absurd (nI_le (by omega) (by omega)) hc
    | succ j ih =>
      intro i bad same hij hbad hsame
      have hi : i < A.1.1.length := by omega
      have hvi := v3 i hi
      have next : ∀ (bad2 : Bool) (same2 : Nat), bad2 = (bad || decide (nI (A.1.1.getD i (0, 0)).1 = a ∧ nI (A.1.1.getD i (0, 0)).2 = b)) → same2 = same + (if nI (A.1.1.getD i (0, 0)).1 = a then 1 else 0) → Mj (l, G, d + 1, m, Ms thr1 (mdPair A a b)) mMod_pair 100 [some (.ref m), some (.int a), some (.int b), some (.int (bI bad2)), some (.int (nI (same2))), some (.int (nI (i)))] [] μ := by
        intro bad2 same2 h1 h2
        refine mj_iinc (L' := [_, _, _, _, _, _]) dMod_pair_100 rfl rfl (by decide) rfl ?_
        refine mj_goto (tgt := 38) dMod_pair_103 (by decide) ?_
        rw [show nI i + Int32.ofInt 1 = nI (i + 1) from nI_1 i]
        refine ih (i + 1) bad2 same2 (by omega) ?_ ?_
        · rw [h1, hbad, take_snoc (0, 0) hi, List.any_append, Bool.or_assoc]; simp
        · rw [h2, hsame, take_snoc (0, 0) hi, List.filter_append, List.length_append]
          congr 1
          by_cases q : nI (A.1.1.getD i (0, 0)).1 = a
          · rw [if_pos q, List.filter_cons_of_pos (by exact decide_eq_true q)]; rfl
          · rw [if_neg q, List.filter_cons_of_neg (by rw [decide_eq_false q]; decide)]; rfl
      have t78 : ∀ bad2 : Bool, bad2 = (bad || decide (nI (A.1.1.getD i (0, 0)).1 = a ∧ nI (A.1.1.getD i (0, 0)).2 = b)) → Mj (l, G, d + 1, m, Ms thr1 (mdPair A a b)) mMod_pair 78 [some (.ref m), some (.int a), some (.int b), some (.int (bI bad)), some (.int (nI (same))), some (.int (nI (i)))] [.int (bI bad2)] μ := by
        intro bad2 h1
        refine mj_istore_n (L' := [_, _, _, _, _, _]) dMod_pair_78 (by decide) rfl ?_
        refine mj_iload dMod_pair_79 rfl ?_
        refine mj_aload_n dMod_pair_81 rfl ?_
        refine mj_get dMod_pair_82 fg_Mod_7 rfl ?_
        refine mj_iload dMod_pair_85 rfl ?_
        refine mj_iaload dMod_pair_87 (by decide) rfl (show _ < 10 by omega) (by decide) ?_
        rw [hvi.1]
        refine mj_iload_n dMod_pair_88 rfl ?_
        refine mj_icmp_ne (tgt := 96) dMod_pair_89 (by decide) (fun hc4 => ?_) (fun hc4 => ?_)
        · refine mj_iconst (v := nI 0) dMod_pair_96 (by decide) ?_
          refine mj_iadd dMod_pair_97 ?_
          rw [nI_add]
          refine mj_istore (L' := [_, _, _, _, _, _]) dMod_pair_98 (by decide) rfl ?_
          exact next bad2 _ h1 (by rw [if_neg hc4])
        · refine mj_iconst (v := nI 1) dMod_pair_92 (by decide) ?_
          refine mj_goto (tgt := 97) dMod_pair_93 (by decide) ?_
          refine mj_iadd dMod_pair_97 ?_
          rw [nI_add]
          refine mj_istore (L' := [_, _, _, _, _, _]) dMod_pair_98 (by decide) rfl ?_
          exact next bad2 _ h1 (by rw [if_pos hc4])
      refine mj_iload dMod_pair_38 rfl ?_
      refine mj_aload_n dMod_pair_40 rfl ?_
      refine mj_get dMod_pair_41 fg_Mod_115 rfl ?_
      rw [v1]
      refine mj_icmp_ge (tgt := 106) dMod_pair_44 (by decide) (fun hc => ?_) (fun hc => ?_)
      · exact absurd hc (nI_ge (by omega) (by omega))
      refine mj_iload_n dMod_pair_47 rfl ?_
      refine mj_if_ne (tgt := 73) dMod_pair_48 (by decide) (fun hc2 => ?_) (fun hc2 => ?_)
      · refine mj_iconst (v := nI 1) dMod_pair_73 (by decide) ?_
        refine mj_goto (tgt := 78) dMod_pair_74 (by decide) ?_
        exact t78 true (by rw [bI_1 hc2]; rfl)
      have hb0 := bI_0.mp hc2
      refine mj_aload_n dMod_pair_51 rfl ?_
      refine mj_get dMod_pair_52 fg_Mod_7 rfl ?_
      refine mj_iload dMod_pair_55 rfl ?_
      refine mj_iaload dMod_pair_57 (by decide) rfl (show _ < 10 by omega) (by decide) ?_
      rw [hvi.1]
      refine mj_iload_n dMod_pair_58 rfl ?_
      refine mj_icmp_ne (tgt := 77) dMod_pair_59 (by decide) (fun hc3 => ?_) (fun hc3 => ?_)
      · refine mj_iconst (v := nI 0) dMod_pair_77 (by decide) ?_
        exact t78 false (by rw [hb0, decide_eq_false (fun z => hc3 z.1)]; rfl)
      refine mj_aload_n dMod_pair_62 rfl ?_
      refine mj_get dMod_pair_63 fg_Mod_13 rfl ?_
      refine mj_iload dMod_pair_66 rfl ?_
      refine mj_iaload dMod_pair_68 (by decide) rfl (show _ < 10 by omega) (by decide) ?_
      rw [hvi.2]
      refine mj_iload_n dMod_pair_69 rfl ?_
      refine mj_icmp_ne (tgt := 77) dMod_pair_70 (by decide) (fun hc4 => ?_) (fun hc4 => ?_)
      · refine mj_iconst (v := nI 0) dMod_pair_77 (by decide) ?_
        exact t78 false (by rw [hb0, decide_eq_false (fun z => hc4 z.2)]; rfl)
      · refine mj_iconst (v := nI 1) dMod_pair_73 (by decide) ?_
        refine mj_goto (tgt := 78) dMod_pair_74 (by decide) ?_
        exact t78 true (by rw [hb0, decide_eq_true ⟨hc3, hc4⟩]; rfl)
  have t31 : ∀ bad : Bool, bad = (!(sg0 a) || !(sg0 b) || decide (a = 0 ∧ b = 0)) → Mj (l, G, d + 1, m, Ms thr1 (mdPair A a b)) mMod_pair 31 [some (.ref m), some (.int a), some (.int b), none, none, none] [.int (bI bad)] μ := by
    intro bad hb9
    refine mj_istore_n (L' := [_, _, _, _, _, _]) dMod_pair_31 (by decide) rfl ?_
    refine mj_iconst (v := nI 0) dMod_pair_32 (by decide) ?_
    refine mj_istore (L' := [_, _, _, _, _, _]) dMod_pair_33 (by decide) rfl ?_
    refine mj_iconst (v := nI 0) dMod_pair_35 (by decide) ?_
    refine mj_istore (L' := [_, _, _, _, _, _]) dMod_pair_36 (by decide) rfl ?_
    exact loop A.1.1.length 0 bad 0 (by omega) (by rw [hb9]; simp) (by simp)
  have hsg : ∀ x : Int32, decide (x.toInt < (nI 0).toInt ∨ 7 < x.toInt) = !(sg0 x) := fun x => by
    have h0 : (nI 0).toInt = 0 := rfl
    unfold sg0
    by_cases q : 0 ≤ x.toInt ∧ x.toInt ≤ 7
    · rw [decide_eq_true q, decide_eq_false (by omega)]; rfl
    · rw [decide_eq_false q, decide_eq_true (by omega)]; rfl
  refine mc_of (L := [_, _, _, _, _, _]) (by decide) (Nat.le_of_ble_eq_true rfl) rfl ?_
  refine mj_aload_n dMod_pair_0 rfl ?_
  refine mj_iload_n dMod_pair_1 rfl ?_
  refine mj_iconst (v := nI 0) dMod_pair_2 (by decide) ?_
  refine mj_p2 dMod_pair_3 ip_Mod_111 cd_Mod_noSign ar_Mod_noSign (c_Mod_noSign (d := d) (a := a) (b := nI 0)) (by dsimp only; omega) (Nat.le_of_ble_eq_true rfl) (fun E m9 q9 => by simp at q9) (fun v9 μ9 hq => ?_)
  obtain ⟨e, e1⟩ := hq
  cases e
  rw [e1]
  rw [hsg]
  refine mj_if_ne (tgt := 26) dMod_pair_6 (by decide) (fun hc => ?_) (fun hc => ?_)
  · refine mj_iconst (v := nI 1) dMod_pair_26 (by decide) ?_
    refine mj_goto (tgt := 31) dMod_pair_27 (by decide) ?_
    exact t31 true (by rw [bI_1 hc]; rfl)
  have q1 := bI_0.mp hc
  refine mj_aload_n dMod_pair_9 rfl ?_
  refine mj_iload_n dMod_pair_10 rfl ?_
  refine mj_iconst (v := nI 0) dMod_pair_11 (by decide) ?_
  refine mj_p2 dMod_pair_12 ip_Mod_111 cd_Mod_noSign ar_Mod_noSign (c_Mod_noSign (d := d) (a := b) (b := nI 0)) (by dsimp only; omega) (Nat.le_of_ble_eq_true rfl) (fun E m9 q9 => by simp at q9) (fun v8 μ8 hq => ?_)
  obtain ⟨e, e1⟩ := hq
  cases e
  rw [e1]
  rw [hsg]
  refine mj_if_ne (tgt := 26) dMod_pair_15 (by decide) (fun hc2 => ?_) (fun hc2 => ?_)
  · refine mj_iconst (v := nI 1) dMod_pair_26 (by decide) ?_
    refine mj_goto (tgt := 31) dMod_pair_27 (by decide) ?_
    exact t31 true (by rw [bI_1 hc2]; simp)
  have q2 := bI_0.mp hc2
  refine mj_iload_n dMod_pair_18 rfl ?_
  refine mj_if_ne (tgt := 30) dMod_pair_19 (by decide) (fun hc3 => ?_) (fun hc3 => ?_)
  · refine mj_iconst (v := nI 0) dMod_pair_30 (by decide) ?_
    exact t31 false (by rw [q1, q2, decide_eq_false (fun z => hc3 z.1)]; rfl)
  refine mj_iload_n dMod_pair_22 rfl ?_
  refine mj_if_ne (tgt := 30) dMod_pair_23 (by decide) (fun hc4 => ?_) (fun hc4 => ?_)
  · refine mj_iconst (v := nI 0) dMod_pair_30 (by decide) ?_
    exact t31 false (by rw [q1, q2, decide_eq_false (fun z => hc4 z.2)]; rfl)
  · refine mj_iconst (v := nI 1) dMod_pair_26 (by decide) ?_
    refine mj_goto (tgt := 31) dMod_pair_27 (by decide) ?_
    exact t31 true (by rw [q1, q2, decide_eq_true ⟨hc3, hc4⟩]; rfl)
end MSET
