/-! The reference: write. -/
def Wr (μ : xMu) (r : List Nat × Bool) (o : xO) (μ' : xMu) : Prop := (r.2 = true ∧ o = rI 0 ∧ μ' 0 0 = 1 ∧ Pe μ μ') ∨ (r.2 = false ∧ o = rI (nI r.1.length) ∧ μ' 0 0 = 0 ∧ Rz μ' r.1 ∧ Pz μ μ')
theorem Fo.eq {μ μ' : xMu} {ks : List Nat} (H : Fo μ ks) (e : ∀ a b : Nat, (a = 0 ∧ b = 24) ∨ (20 ≤ a ∧ a ≤ 23 ∧ b < ks.length) → μ' a b = μ a b) : Fo μ' ks := by
  obtain ⟨h1, h2, h3⟩ := H
  exact ⟨(e _ _ (by omega)).trans h1, fun j hj => (h2 j hj).eq (fun a a1 a2 => e _ _ (by omega)), h3⟩
theorem Fo.nil {μ : xMu} (h : μ 0 24 = 0) : Fo μ [] := ⟨h, fun j hj => absurd hj (Nat.not_lt_zero _), Nat.zero_le _, fun k hk => by simp at hk, List.Pairwise.nil⟩
theorem Sk.fp {μ μ' : xMu} {V : xV} {row : List Nat} {t : Nat} (H : Sk μ V row t) (e : Fp μ μ') : Sk μ' V row t := by
  obtain ⟨⟨h1, h2, h3, h4⟩, h5, h6, h7⟩ := H
  exact ⟨⟨(e _ _ (by omega)).trans h1, fun i hi => (e _ _ (by omega)).trans (h2 i hi), fun i hi => ⟨(e _ _ (by omega)).trans (h3 i hi).1, (e _ _ (by omega)).trans (h3 i hi).2⟩, h4⟩, fun i hi => (e _ _ (by omega)).trans (h5 i hi), (e _ _ (by omega)).trans h6, h7⟩
theorem Rw.fp {μ μ' : xMu} {w u : List Nat} (H : Rw μ w u) (e : Fp μ μ') : Rw μ' w u := by
  obtain ⟨v1, v2, v3, v4, v5⟩ := H
  exact ⟨(e _ _ (by omega)).trans v1, (e _ _ (by omega)).trans v2, fun i hi => (e _ _ (by omega)).trans (v3 i hi), fun i hi => (e _ _ (by omega)).trans (v4 i hi), v5⟩
theorem wk_vt {V : xV} {row : List Nat} (hb : ∀ p, upp (wv V) p < 8) (h : upc V row ≤ 5) : VT (wk V row) ∧ dS (wk V row) = (upw (wv V) row).length ∧ dT (wk V row) = val8 (upw (wv V) row) ∧ dC (wk V row) = 0 ∧ dE (wk V row) = 0 := by
  have h1 : (upw (wv V) row).length ≤ 5 := by rw [upw_len]; exact h
  have h2 : val8 (upw (wv V) row) < 8 ^ (upw (wv V) row).length := val8_lt _ _ rfl (fun x hx => by
    obtain ⟨q, -, hq⟩ := List.mem_map.mp (List.mem_filter.mp hx).1
    rw [← hq]; exact hb q)
  have d := kk_d h1 h2 (Nat.zero_le 4) (show 0 < 8 ^ 0 by decide)
  exact ⟨⟨_, _, 0, 0, h1, h2, by omega, by decide, rfl⟩, d.1, d.2.1, d.2.2.1, d.2.2.2⟩
section MWRITE2
variable {l : Launch} {G : xG} {d m : Nat} {μ : xMu} {V : xV} {w u : List Nat} {ks : List Nat}
theorem c_Mod_write (HV : Rv μ V) (HL : Rl μ w u) : Mc l G mMod_write (d + 7) m [.ref m] μ (fun o μ' => Wr μ (wfold V (post V w [] false 10 []) []) o μ') := by
  obtain ⟨l1, l2, l3, l4, l5, l6, l7, l8⟩ := id HL
  have hbu : ∀ p, upp (wv V) p < 8 := fun p => by
    unfold upp
    by_cases hp : p < V.1.length
    · exact (HV.2.2.2.2.2.2.2.2.1 _ (getD_mem hp)).2
    · rw [getD_len (by show V.1.length ≤ p; omega)]; decide
  have loop : ∀ (ρ : List (List Nat)) (ks : List Nat) (row : List Nat) (t : Nat) (μ1 : xMu) x1 x2 x3 x4, Pe μ μ1 → μ1 0 0 = 0 → Rw μ1 w [] → Fo μ1 ks → Sk μ1 V row t → VDs V w row → restR V w [] false row.reverse t = ρ → (∀ a ∈ ρ, upc V a ≤ 5) → wfold V ρ ks = wfold V (post V w [] false 10 []) [] → Mj (l, G, d + 7, m, fun o μ' => Wr μ (wfold V (post V w [] false 10 []) []) o μ') mMod_write 31 [some (.ref m), x1, x2, x3, x4] [] μ1 := by
    intro ρ
    induction ρ with
    | nil =>
      intro ks row t μ1 x1 x2 x3 x4 PE z0 RW FO SK VD hr hup hb
      refine mj_aload_n dMod_write_31 rfl ?_
      refine mj_iconst (v := nI 0) dMod_write_32 (by decide) ?_
      refine mj_p1 dMod_write_33 ip_Mod_166 cd_Mod_nextAlignment ar_Mod_nextAlignment (c_Mod_next (d := d) (gv := false) (HV.pe PE) RW SK VD hr) (by dsimp only; omega) (Nat.le_of_ble_eq_true rfl) (fun E m9 q9 => by obtain ⟨-, q9⟩ := q9; unfold Nx at q9; split at q9 <;> simp at q9) (fun v9 μ9 hq => ?_)
      obtain ⟨S2, N2⟩ := hq
      have N2 : _ = rI (bI false) := N2
      cases N2
      refine mj_if_eq (tgt := 183) dMod_write_36 (by decide) (fun hc => ?_) (fun hc => ?_)
      rotate_left
      · exact absurd rfl hc
      refine mj_aload_n dMod_write_183 rfl ?_
      refine mj_p0 dMod_write_184 ip_Mod_191 cd_Mod_finish ar_Mod_finish (c_Mod_finish (d := d) (FO.eq (fun a b h => S2 a b (by omega)))) (by dsimp only; omega) (Nat.le_of_ble_eq_true rfl) (fun E m9 q9 => by simp at q9) (fun v8 μ8 hq => ?_)
      obtain ⟨e, RZ, ZZ⟩ := hq
      cases e
      refine mj_iret dMod_write_187 rfl (Or.inr ⟨by rw [← hb]; rfl, by rw [← hb]; rfl, ?_, by rw [← hb]; exact RZ, (PE.trans (Pe.ss S2)).pz.trans ZZ.pz⟩)
      rw [ZZ _ _ (by omega), S2 _ _ (by omega)]; exact z0
    | cons a more ih =>
      intro ks row t μ1 x1 x2 x3 x4 PE z0 RW FO SK VD hr hup hb
      refine mj_aload_n dMod_write_31 rfl ?_
      refine mj_iconst (v := nI 0) dMod_write_32 (by decide) ?_
      refine mj_p1 dMod_write_33 ip_Mod_166 cd_Mod_nextAlignment ar_Mod_nextAlignment (c_Mod_next (d := d) (gv := false) (HV.pe PE) RW SK VD hr) (by dsimp only; omega) (Nat.le_of_ble_eq_true rfl) (fun E m9 q9 => by obtain ⟨-, q9⟩ := q9; unfold Nx at q9; split at q9 <;> simp at q9) (fun v9 μ2 hq => ?_)
      obtain ⟨S2, N2, SK2, VD2, hr2⟩ := hq
      cases N2
      have PE2 := PE.trans (Pe.ss S2)
      have HV2 := HV.pe PE2
      have z2 := (S2 _ _ (by omega)).trans z0
      have FO2 := FO.eq (fun a b h => S2 a b (by omega))
      have RW2 := RW.ss S2
      have hla := VD2.me.len RW.2.2.2.2.1
      have RR := SK2.1.rr hla
      obtain ⟨v1, v2, v3, v4, v5, v6, v7, v8, v9, v10, -⟩ := id HV2
      obtain ⟨r1, r2, r3, r4⟩ := id RR
      have hua := hup a List.mem_cons_self
      have hup2 : ∀ b ∈ more, upc V b ≤ 5 := fun b hb9 => hup b (List.mem_cons_of_mem _ hb9)
      obtain ⟨vt, d1, d2, d3, d4⟩ := wk_vt hbu hua
      obtain ⟨fo1, fo2, fo3, fo4, fo5⟩ := id FO2
      refine mj_if_eq (tgt := 183) dMod_write_36 (by decide) (fun hc => ?_) (fun hc => ?_)
      · exact absurd hc (by decide)
      refine mj_aload_n dMod_write_39 rfl ?_
      refine mj_p0 dMod_write_40 ip_Mod_170 cd_Mod_keepsAll ar_Mod_keepsAll (c_Mod_keepsAll (d := d) HV2 RR) (by dsimp only; omega) (Nat.le_of_ble_eq_true rfl) (fun E m9 q9 => by simp at q9) (fun v7 μ7 hq => ?_)
      obtain ⟨e, e1⟩ := hq
      cases e
      rw [e1]
      refine mj_if_eq (tgt := 31) dMod_write_43 (by decide) (fun hc2 => ?_) (fun hc2 => ?_)
      · exact ih ks a _ μ2 _ _ _ _ PE2 z2 RW2 FO2 SK2 VD2 hr2 hup2 (by rw [← hb, wfold, bI_0.mp hc2]; rfl)
      have hkp := bI_1 hc2
      have t126 : ∀ x3 x4, Mj (l, G, d + 7, m, fun o μ' => Wr μ (wfold V (post V w [] false 10 []) []) o μ') mMod_write 126 [some (.ref m), some (.int (nI ((upw (wv V) a).length))), some (.int (nI (val8 (upw (wv V) a)))), x3, x4] [] μ2 := by
        intro x3 x4
        refine mj_aload_n dMod_write_126 rfl ?_
        refine mj_get dMod_write_127 fg_Mod_68 rfl ?_
        refine mj_aload_n dMod_write_130 rfl ?_
        refine mj_get dMod_write_131 fg_Mod_181 rfl ?_
        refine mj_iload_n dMod_write_134 rfl ?_
        refine mj_iastore dMod_write_135 (by decide) fo1 (show _ < 61 by omega) (by decide) ?_
        refine mj_aload_n dMod_write_136 rfl ?_
        refine mj_get dMod_write_137 fg_Mod_71 rfl ?_
        refine mj_aload_n dMod_write_140 rfl ?_
        refine mj_get dMod_write_141 fg_Mod_181 rfl ?_
        refine mj_iload_n dMod_write_144 rfl ?_
        refine mj_iastore dMod_write_145 (by decide) (by rw [mup_k _ _ (by decide)]; exact fo1) (show _ < 61 by omega) (by decide) ?_
        refine mj_aload_n dMod_write_146 rfl ?_
        refine mj_get dMod_write_147 fg_Mod_74 rfl ?_
        refine mj_aload_n dMod_write_150 rfl ?_
        refine mj_get dMod_write_151 fg_Mod_181 rfl ?_
        refine mj_iconst (v := nI 0) dMod_write_154 (by decide) ?_
        refine mj_iastore dMod_write_155 (by decide) (by rw [mup_k _ _ (by decide), mup_k _ _ (by decide)]; exact fo1) (show _ < 61 by omega) (by decide) ?_
        refine mj_aload_n dMod_write_156 rfl ?_
        refine mj_get dMod_write_157 fg_Mod_77 rfl ?_
        refine mj_aload_n dMod_write_160 rfl ?_
        refine mj_get dMod_write_161 fg_Mod_181 rfl ?_
        refine mj_iconst (v := nI 0) dMod_write_164 (by decide) ?_
        refine mj_iastore dMod_write_165 (by decide) (by rw [mup_k _ _ (by decide), mup_k _ _ (by decide), mup_k _ _ (by decide)]; exact fo1) (show _ < 61 by omega) (by decide) ?_
        refine mj_aload_n dMod_write_166 rfl ?_
        have FK : Fk (mup (mup (mup (mup μ2 20 ks.length (nI (upw (wv V) a).length)) 21 ks.length (nI (val8 (upw (wv V) a)))) 22 ks.length (nI 0)) 23 ks.length (nI 0)) ks.length (wk V a) := by
          refine ⟨?_, ?_, ?_, ?_⟩
          · rw [mup_k _ _ (by decide), mup_k _ _ (by decide), mup_k _ _ (by decide), mup_s, d1]
          · rw [mup_k _ _ (by decide), mup_k _ _ (by decide), mup_s, d2]
          · rw [mup_k _ _ (by decide), mup_s, d3]
          · rw [mup_s, d4]
        have F3 : Fo (mup (mup (mup (mup μ2 20 ks.length (nI (upw (wv V) a).length)) 21 ks.length (nI (val8 (upw (wv V) a)))) 22 ks.length (nI 0)) 23 ks.length (nI 0)) ks := FO2.eq (fun x y h => by
          rcases h with h | h
          · rw [h.1, mup_k _ _ (by decide), mup_k _ _ (by decide), mup_k _ _ (by decide), mup_k _ _ (by decide)]
          · have e : y ≠ ks.length := by omega
            rw [mup_ne _ _ (Or.inr e), mup_ne _ _ (Or.inr e), mup_ne _ _ (Or.inr e), mup_ne _ _ (Or.inr e)])
        have FP : Fp μ2 (mup (mup (mup (mup μ2 20 ks.length (nI (upw (wv V) a).length)) 21 ks.length (nI (val8 (upw (wv V) a)))) 22 ks.length (nI 0)) 23 ks.length (nI 0)) := (((Fp.rf.up (by omega)).up (by omega)).up (by omega)).up (by omega)
        generalize mup (mup (mup (mup μ2 20 ks.length (nI (upw (wv V) a).length)) 21 ks.length (nI (val8 (upw (wv V) a)))) 22 ks.length (nI 0)) 23 ks.length (nI 0) = μ3 at *
        refine mj_p0 dMod_write_167 ip_Mod_188 cd_Mod_put ar_Mod_put (c_Mod_put (d := d) vt F3 FK) (by dsimp only; omega) (Nat.le_of_ble_eq_true rfl) (fun E m9 q9 => by simp at q9) (fun v6 μ6 hq => ?_)
        obtain ⟨e, F6, FP6⟩ := hq
        cases e
        have FP26 : Fp μ2 μ6 := fun x y h => (FP6 x y h).trans (FP x y h)
        have PE6 := PE2.trans FP26.pe
        have z6 : μ6 0 0 = 0 := (FP26 _ _ (by omega)).trans z2
        refine mj_if_ne (tgt := 180) dMod_write_170 (by decide) (fun hc3 => ?_) (fun hc3 => ?_)
        · have hz : (radd (ks, false) (wk V a)).2 = false := by have := bI_1 hc3; simpa using this
          refine mj_goto (tgt := 31) dMod_write_180 (by decide) ?_
          exact ih _ a _ μ6 _ _ _ _ PE6 z6 (RW2.fp FP26) F6 (SK2.fp FP26) VD2 hr2 hup2 (by rw [← hb, wfold, if_pos hkp, hz]; rfl)
        · have hz : (radd (ks, false) (wk V a)).2 = true := by have := bI_0.mp hc3; simpa using this
          have hR : wfold V (a :: more) ks = (ks, true) := by rw [wfold, if_pos hkp, if_pos hz]
          refine mj_aload_n dMod_write_173 rfl ?_
          refine mj_iconst (v := nI 1) dMod_write_174 (by decide) ?_
          refine mj_put dMod_write_175 (fp_Mod_107 _) (by decide) ?_
          refine mj_iconst (v := nI 0) dMod_write_178 (by decide) ?_
          exact mj_iret dMod_write_179 rfl (Or.inl ⟨by rw [← hb, hR], rfl, mup_s _ _ _ _, PE6.up (by omega)⟩)
      have inner : ∀ (j i : Nat) x4, i + j = a.length → Mj (l, G, d + 7, m, fun o μ' => Wr μ (wfold V (post V w [] false 10 []) []) o μ') mMod_write 52 [some (.ref m), some (.int (nI ((upw (wv V) (a.take i)).length))), some (.int (nI (val8 (upw (wv V) (a.take i))))), some (.int (nI (i))), x4] [] μ2 := by
        intro j
        induction j with
        | zero =>
          intro i x4 hij
          have e : a.take i = a := List.take_of_length_le (by omega)
          refine mj_iload_n dMod_write_52 rfl ?_
          refine mj_aload_n dMod_write_53 rfl ?_
          refine mj_get dMod_write_54 fg_Mod_144 rfl ?_
          rw [r1]
          refine mj_icmp_ge (tgt := 126) dMod_write_57 (by decide) (fun hc5 => ?_) (fun hc5 => ?_)
          · rw [e]; exact t126 _ _
          · exact absurd (nI_le (by omega) (by omega)) hc5
        | succ j ihj =>
          intro i x4 hij
          have hri := r3 _ (getD_mem (d := 0) (show i < a.length by omega))
          have hs := upw_snoc (wv V) (a.take i) (a.getD i 0)
          rw [← take_snoc 0 (by omega)] at hs
          have ubi : upp (wv V) (a.getD i 0) < 8 := hbu _
          have next : ∀ (is : Bool) (n t : Nat), n = (upw (wv V) (a.take (i + 1))).length → t = val8 (upw (wv V) (a.take (i + 1))) → Mj (l, G, d + 7, m, fun o μ' => Wr μ (wfold V (post V w [] false 10 []) []) o μ') mMod_write 120 [some (.ref m), some (.int (nI (n))), some (.int (nI (t))), some (.int (nI (i))), some (.int (bI is))] [] μ2 := by
            intro is n t hn ht
            refine mj_iinc (L' := [_, _, _, _, _]) dMod_write_120 rfl rfl (by decide) rfl ?_
            refine mj_goto (tgt := 52) dMod_write_123 (by decide) ?_
            rw [show nI i + Int32.ofInt 1 = nI (i + 1) from nI_1 i, hn, ht]
            exact ihj (i + 1) _ (by omega)
          refine mj_iload_n dMod_write_52 rfl ?_
          refine mj_aload_n dMod_write_53 rfl ?_
          refine mj_get dMod_write_54 fg_Mod_144 rfl ?_
          rw [r1]
          refine mj_icmp_ge (tgt := 126) dMod_write_57 (by decide) (fun hc5 => ?_) (fun hc5 => ?_)
          · exact absurd hc5 (nI_ge (by omega) (by omega))
          refine mj_aload_n dMod_write_60 rfl ?_
          refine mj_get dMod_write_61 fg_Mod_13 rfl ?_
          refine mj_aload_n dMod_write_64 rfl ?_
          refine mj_get dMod_write_65 fg_Mod_92 rfl ?_
          refine mj_iload_n dMod_write_68 rfl ?_
          refine mj_iaload dMod_write_69 (by decide) rfl (show _ < 12 by omega) (by decide) ?_
          rw [r2 i (by omega)]
          refine mj_iaload dMod_write_70 (by decide) rfl (show _ < 10 by omega) (by decide) ?_
          rw [(v3 _ hri).2]
          refine mj_if_le (tgt := 78) dMod_write_71 (by decide) (fun hc6 => ?_) (fun hc6 => ?_)
          · have q : upp (wv V) (a.getD i 0) = 0 := by
              have z := (nI_leI (b := 0) (a := upp (wv V) (a.getD i 0)) (by omega) (by omega)).mp hc6
              omega
            rw [if_pos q, List.append_nil] at hs
            refine mj_iconst (v := nI 0) dMod_write_78 (by decide) ?_
            refine mj_istore (L' := [_, _, _, _, _]) dMod_write_79 (by decide) rfl ?_
            refine mj_iload dMod_write_81 rfl ?_
            refine mj_if_eq (tgt := 105) dMod_write_83 (by decide) (fun hc7 => ?_) (fun hc7 => absurd rfl hc7)
            refine mj_iload_n dMod_write_105 rfl ?_
            refine mj_istore_n (L' := [_, _, _, _, _]) dMod_write_106 (by decide) rfl ?_
            refine mj_iload_n dMod_write_107 rfl ?_
            refine mj_iload dMod_write_108 rfl ?_
            refine mj_if_eq (tgt := 117) dMod_write_110 (by decide) (fun hc8 => ?_) (fun hc8 => absurd rfl hc8)
            refine mj_iconst (v := nI 0) dMod_write_117 (by decide) ?_
            refine mj_iadd dMod_write_118 ?_
            rw [show nI (upw (wv V) (a.take i)).length + nI 0 = nI (upw (wv V) (a.take i)).length from by rw [nI_add]; rfl]
            refine mj_istore_n (L' := [_, _, _, _, _]) dMod_write_119 (by decide) rfl ?_
            exact next false _ _ (by rw [hs]) (by rw [hs])
          · have q : ¬ upp (wv V) (a.getD i 0) = 0 := fun z => hc6 (by rw [show (V.1.getD (a.getD i 0) (0, 0)).2 = 0 from z]; exact Int32.le_refl _)
            rw [if_neg q] at hs
            refine mj_iconst (v := nI 1) dMod_write_74 (by decide) ?_
            refine mj_goto (tgt := 79) dMod_write_75 (by decide) ?_
            refine mj_istore (L' := [_, _, _, _, _]) dMod_write_79 (by decide) rfl ?_
            refine mj_iload dMod_write_81 rfl ?_
            refine mj_if_eq (tgt := 105) dMod_write_83 (by decide) (fun hc7 => absurd hc7 (by decide)) (fun hc7 => ?_)
            refine mj_bipush (v := nI 8) dMod_write_86 (by decide) ?_
            refine mj_iload_n dMod_write_88 rfl ?_
            refine mj_imul dMod_write_89 ?_
            refine mj_aload_n dMod_write_90 rfl ?_
            refine mj_get dMod_write_91 fg_Mod_13 rfl ?_
            refine mj_aload_n dMod_write_94 rfl ?_
            refine mj_get dMod_write_95 fg_Mod_92 rfl ?_
            refine mj_iload_n dMod_write_98 rfl ?_
            refine mj_iaload dMod_write_99 (by decide) rfl (show _ < 12 by omega) (by decide) ?_
            rw [r2 i (by omega)]
            refine mj_iaload dMod_write_100 (by decide) rfl (show _ < 10 by omega) (by decide) ?_
            rw [(v3 _ hri).2, pk_mul]
            refine mj_iadd dMod_write_101 ?_
            rw [nI_add]
            refine mj_goto (tgt := 106) dMod_write_102 (by decide) ?_
            refine mj_istore_n (L' := [_, _, _, _, _]) dMod_write_106 (by decide) rfl ?_
            refine mj_iload_n dMod_write_107 rfl ?_
            refine mj_iload dMod_write_108 rfl ?_
            refine mj_if_eq (tgt := 117) dMod_write_110 (by decide) (fun hc8 => absurd hc8 (by decide)) (fun hc8 => ?_)
            refine mj_iconst (v := nI 1) dMod_write_113 (by decide) ?_
            refine mj_goto (tgt := 118) dMod_write_114 (by decide) ?_
            refine mj_iadd dMod_write_118 ?_
            rw [nI_add]
            refine mj_istore_n (L' := [_, _, _, _, _]) dMod_write_119 (by decide) rfl ?_
            exact next true _ _ (by rw [hs, List.length_append]; rfl) (by rw [hs, val8_snoc]; rfl)
      refine mj_iconst (v := nI 0) dMod_write_46 (by decide) ?_
      refine mj_istore_n (L' := [_, _, _, _, _]) dMod_write_47 (by decide) rfl ?_
      refine mj_iconst (v := nI 0) dMod_write_48 (by decide) ?_
      refine mj_istore_n (L' := [_, _, _, _, _]) dMod_write_49 (by decide) rfl ?_
      refine mj_iconst (v := nI 0) dMod_write_50 (by decide) ?_
      refine mj_istore_n (L' := [_, _, _, _, _]) dMod_write_51 (by decide) rfl ?_
      exact inner a.length 0 x4 (by omega)
  have P1 : Pe μ (mup μ 0 0 (nI 0)) := Pe.rf.up (by omega)
  have l1' := (P1 14 0 (by omega)).trans l1
  refine mc_of (L := [_, _, _, _, _]) (by decide) (Nat.le_of_ble_eq_true rfl) rfl ?_
  refine mj_aload_n dMod_write_0 rfl ?_
  refine mj_iconst (v := nI 0) dMod_write_1 (by decide) ?_
  refine mj_put dMod_write_2 (fp_Mod_107 _) (by decide) ?_
  have z0 : mup μ 0 0 (nI 0) 0 0 = 0 := mup_s _ _ _ _
  have l3' : ∀ i, i < w.length → mup μ 0 0 (nI 0) 15 (0 + i) = nI (w.getD i 0) := fun i hi => by rw [Nat.zero_add]; exact (P1 _ _ (by omega)).trans (l3 i hi)
  generalize mup μ 0 0 (nI 0) = μ1 at *
  refine mj_aload_n dMod_write_5 rfl ?_
  refine mj_aload_n dMod_write_6 rfl ?_
  refine mj_get dMod_write_7 fg_Mod_53 rfl ?_
  refine mj_iconst (v := nI 0) dMod_write_10 (by decide) ?_
  refine mj_aload_n dMod_write_11 rfl ?_
  refine mj_get dMod_write_12 fg_Mod_50 rfl ?_
  refine mj_iconst (v := nI 0) dMod_write_15 (by decide) ?_
  refine mj_iaload dMod_write_16 (by decide) rfl (show _ < 2 by decide) (by decide) ?_
  rw [l1']
  refine mj_iconst (v := nI 5) dMod_write_17 (by decide) ?_
  refine mj_iconst (v := nI 0) dMod_write_18 (by decide) ?_
  refine mj_p5 dMod_write_19 ip_Mod_174 cd_Mod_take ar_Mod_take (c_Mod_take (d := d) (k := 15) (a := 0) (b := 5) (u := []) (Or.inl rfl) (show 0 + w.length ≤ 10 by omega) (by decide) l5 (by decide) l7 (fun i => by simp) l3' (fun i hi => absurd hi (Nat.not_lt_zero _))) (by dsimp only; omega) (Nat.le_of_ble_eq_true rfl) (fun E m9 q9 => by simp at q9) (fun v9 μ2 hq => ?_)
  obtain ⟨e, W2, T2⟩ := hq
  cases e
  refine mj_aload_n dMod_write_22 rfl ?_
  refine mj_iconst (v := nI 0) dMod_write_23 (by decide) ?_
  refine mj_put dMod_write_24 (fp_Mod_181 _) (by decide) ?_
  refine mj_aload_n dMod_write_27 rfl ?_
  have P3 : Pe μ (mup μ2 0 24 (nI 0)) := (P1.trans T2.pe).up (by omega)
  have z3 : mup μ2 0 24 (nI 0) 0 0 = 0 := by rw [mup_j _ _ (by decide), T2 _ _ (by omega)]; exact z0
  have W3 : Rw (mup μ2 0 24 (nI 0)) w [] := W2.fp (Fp.rf.up (by omega))
  have F3 : Fo (mup μ2 0 24 (nI 0)) [] := Fo.nil (mup_s _ _ _ _)
  generalize mup μ2 0 24 (nI 0) = μ3 at *
  refine mj_p0 dMod_write_28 ip_Mod_163 cd_Mod_begin ar_Mod_begin (c_Mod_begin (d := d) (V := V)) (by dsimp only; omega) (Nat.le_of_ble_eq_true rfl) (fun E m9 q9 => by simp at q9) (fun v8 μ8 hq => ?_)
  obtain ⟨e, S3, SK3⟩ := hq
  cases e
  exact loop _ [] [] 0 μ8 _ _ _ _ (P3.trans (Pe.ss S3)) ((S3 _ _ (by omega)).trans z3) (W3.ss S3) (F3.eq (fun a b h => S3 a b (by omega))) SK3 VDs.nil (rest_root V w [] false) (post_up 10 [] (by simp [upc])) rfl
end MWRITE2
