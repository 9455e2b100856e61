/-! The reference: analyse. -/
def digs (E : Nat) : Nat → Nat → List Nat
  | 0, _ => []
  | n + 1, w => digs E n (w / E) ++ [w % E]
theorem digs_len (E : Nat) : ∀ (n w : Nat), (digs E n w).length = n
  | 0, _ => rfl
  | n + 1, w => by rw [digs, List.length_append, digs_len E n]; rfl
theorem digs_lt {E : Nat} (hE : 0 < E) : ∀ (n w : Nat), ∀ e ∈ digs E n w, e < E
  | 0, _, e, he => by simp [digs] at he
  | n + 1, w, e, he => by
    rw [digs, List.mem_append] at he
    rcases he with he | he
    · exact digs_lt hE n _ e he
    · rw [List.mem_singleton.mp he]; exact Nat.mod_lt _ hE
def words (E n : Nat) : List (List Nat) := (List.range' 0 (E ^ n)).map (digs E n)
def remN (E : Nat) : Nat → List (List Nat)
  | 0 => []
  | k + 1 => words E (4 - k) ++ remN E k
theorem remN_0 : ∀ k, k ≤ 4 → remN 0 k = []
  | 0, _ => rfl
  | k + 1, h => by
    rw [remN, remN_0 k (by omega), words, Nat.zero_pow (by omega)]; rfl
def afold (V : xV) (es : List xEn) (u : List Nat) : List (List Nat) → List Nat → List Nat × Bool
  | [], ks => (ks, false)
  | a :: more, ks => if fdB V es u a then (if (radd (ks, false) (ak es a)).2 then (ks, true) else afold V es u more (radd (ks, false) (ak es a)).1) else afold V es u more ks
theorem ak_vt {V : xV} {es : List xEn} {u wd : List Nat} (hB : EB es) (h4 : wd.length ≤ 4) (hw : ∀ e ∈ wd, e < 8) (h : fdB V es u wd = true) : VT (ak es wd) := by
  unfold fdB at h
  rw [Bool.and_eq_true, Bool.and_eq_true] at h
  have hl : (ews es wd).length ≤ 4 := of_decide_eq_true h.1.2
  exact ⟨_, _, _, _, by omega, val8_lt _ _ rfl (ews_lt hB wd), h4, val8_lt _ _ rfl hw, rfl⟩
theorem Ru9.fp {μ μ' : xMu} {u : List Nat} (H : Ru9 μ u) (e : Fp μ μ') : Ru9 μ' u := ⟨(e _ _ (by omega)).trans H.1, fun i hi => (e _ _ (by omega)).trans (H.2.1 i hi), H.2.2⟩
section MANA2
variable {l : Launch} {G : xG} {d m : Nat} {μ : xMu} {V : xV} {es : List xEn} {w u : List Nat}
theorem c_Mod_analyse (HV : Rv μ V) (HE : Re μ es) (HL : Rl μ w u) : Mc l G mMod_analyse (d + 9) m [.ref m] μ (fun o μ' => Wr μ (afold V es u (remN es.length 4) []) o μ') := by
  obtain ⟨l1, l2, l3, l4, l5, l6, l7, l8⟩ := id HL
  have hB := HE.2.2.2.2.2.2
  have hE8 := HE.2.1
  have t146 : ∀ (ks : List Nat) (μ1 : xMu) x1 x2 x3 x4 x5, Pe μ μ1 → μ1 0 0 = 0 → Fo μ1 ks → (ks, false) = afold V es u (remN es.length 4) [] → Mj (l, G, d + 9, m, fun o μ' => Wr μ (afold V es u (remN es.length 4) []) o μ') mMod_analyse 146 [some (.ref m), x1, x2, x3, x4, x5] [] μ1 := by
    intro ks μ1 x1 x2 x3 x4 x5 PE z0 FO hb
    refine mj_aload_n dMod_analyse_146 rfl ?_
    refine mj_p0 dMod_analyse_147 ip_Mod_191 cd_Mod_finish ar_Mod_finish (c_Mod_finish (d := d) FO) (by dsimp only; omega) (Nat.le_of_ble_eq_true rfl) (fun E m9 q9 => by simp at q9) (fun v9 μ9 hq => ?_)
    obtain ⟨e, RZ, ZZ⟩ := hq
    cases e
    refine mj_iret dMod_analyse_150 rfl (Or.inr ⟨by rw [← hb], by rw [← hb], ?_, by rw [← hb]; exact RZ, PE.pz.trans ZZ.pz⟩)
    rw [ZZ _ _ (by omega)]; exact z0
  have outer : ∀ (k n : Nat) (ks : List Nat) (μ1 : xMu) x2 x3 x4 x5, n + k = 5 → 1 ≤ n → Pe μ μ1 → μ1 0 0 = 0 → Ru9 μ1 u → Fo μ1 ks → afold V es u (remN es.length k) ks = afold V es u (remN es.length 4) [] → Mj (l, G, d + 9, m, fun o μ' => Wr μ (afold V es u (remN es.length 4) []) o μ') mMod_analyse 29 [some (.ref m), some (.int (nI (n))), x2, x3, x4, x5] [] μ1 := by
    intro k
    induction k with
    | zero =>
      intro n ks μ1 x2 x3 x4 x5 hn h1 PE z0 RU FO hb
      refine mj_iload_n dMod_analyse_29 rfl ?_
      refine mj_iconst (v := nI 4) dMod_analyse_30 (by decide) ?_
      refine mj_icmp_gt (tgt := 146) dMod_analyse_31 (by decide) (fun hc => ?_) (fun hc => ?_)
      · exact t146 ks μ1 _ _ _ _ _ PE z0 FO hb
      · exact absurd (nI_lt (by omega) (by omega)) hc
    | succ k ih =>
      intro n ks μ1 x2 x3 x4 x5 hn h1 PE z0 RU FO hb
      have hnk : 4 - k = n := by omega
      obtain ⟨e1, -⟩ := HE.pe PE
      refine mj_iload_n dMod_analyse_29 rfl ?_
      refine mj_iconst (v := nI 4) dMod_analyse_30 (by decide) ?_
      refine mj_icmp_gt (tgt := 146) dMod_analyse_31 (by decide) (fun hc => ?_) (fun hc => ?_)
      · exact absurd hc (nI_nlt (by omega) (by omega))
      refine mj_aload_n dMod_analyse_34 rfl ?_
      refine mj_get dMod_analyse_35 fg_Mod_128 rfl ?_
      rw [e1]
      refine mj_if_le (tgt := 146) dMod_analyse_38 (by decide) (fun hc2 => ?_) (fun hc2 => ?_)
      · have hz : es.length = 0 := by
          have := (nI_leI (b := 0) (by omega) (by omega)).mp hc2
          omega
        rw [hz, remN_0 _ (by omega)] at hb
        exact t146 ks μ1 _ _ _ _ _ PE z0 FO (by rw [hz]; exact hb)
      have hE : 0 < es.length := by
        rcases Nat.eq_zero_or_pos es.length with z | z
        · exact absurd (by rw [z]; exact Int32.le_refl _) hc2
        · exact z
      have hpow : ∀ i, i ≤ 4 → es.length ^ i ≤ 4096 := fun i hi => Nat.le_trans (Nat.pow_le_pow_left hE8 i) (Nat.pow_le_pow_right (by decide) hi : 8 ^ i ≤ 8 ^ 4)
      have hpn := hpow n (by omega)
      rw [remN, hnk, words] at hb
      have wloop : ∀ (j wn : Nat) (ks : List Nat) (μ2 : xMu) x4 x5, wn + j = es.length ^ n → Pe μ μ2 → μ2 0 0 = 0 → Ru9 μ2 u → Fo μ2 ks → afold V es u ((List.range' wn j).map (digs es.length n) ++ remN es.length k) ks = afold V es u (remN es.length 4) [] → Mj (l, G, d + 9, m, fun o μ' => Wr μ (afold V es u (remN es.length 4) []) o μ') mMod_analyse 65 [some (.ref m), some (.int (nI (n))), some (.int (nI (es.length ^ n))), some (.int (nI (wn))), x4, x5] [] μ2 := by
        intro j
        induction j with
        | zero =>
          intro wn ks μ2 x4 x5 hw PE z0 RU FO hb
          refine mj_iload_n dMod_analyse_65 rfl ?_
          refine mj_iload_n dMod_analyse_66 rfl ?_
          refine mj_icmp_ge (tgt := 140) dMod_analyse_67 (by decide) (fun hc3 => ?_) (fun hc3 => ?_)
          · refine mj_iinc (L' := [_, _, _, _, _, _]) dMod_analyse_140 rfl rfl (by decide) rfl ?_
            refine mj_goto (tgt := 29) dMod_analyse_143 (by decide) ?_
            rw [show nI n + Int32.ofInt 1 = nI (n + 1) from nI_1 n]
            exact ih (n + 1) ks μ2 _ _ _ _ (by omega) (by omega) PE z0 RU FO hb
          · exact absurd (nI_le (by omega) (by omega)) hc3
        | succ j ihj =>
          intro wn ks μ2 x4 x5 hw PE z0 RU FO hb
          rw [List.range'_succ, List.map_cons, List.cons_append] at hb
          have hdl := digs_len es.length n wn
          have t112 : ∀ (μ3 : xMu) x4 x5, Pe μ μ3 → μ3 0 0 = 0 → Ru9 μ3 u → Fo μ3 ks → (∀ i, i < n → μ3 32 i = nI ((digs es.length n wn).getD i 0)) → Mj (l, G, d + 9, m, fun o μ' => Wr μ (afold V es u (remN es.length 4) []) o μ') mMod_analyse 112 [some (.ref m), some (.int (nI (n))), some (.int (nI (es.length ^ n))), some (.int (nI (wn))), x4, x5] [] μ3 := by
            intro μ3 x4 x5 PE3 z3 RU3 FO3 hwd
            have next : ∀ (ks' : List Nat) (μ4 : xMu), Pe μ μ4 → μ4 0 0 = 0 → Ru9 μ4 u → Fo μ4 ks' → afold V es u ((List.range' (wn + 1) j).map (digs es.length n) ++ remN es.length k) ks' = afold V es u (remN es.length 4) [] → Mj (l, G, d + 9, m, fun o μ' => Wr μ (afold V es u (remN es.length 4) []) o μ') mMod_analyse 134 [some (.ref m), some (.int (nI (n))), some (.int (nI (es.length ^ n))), some (.int (nI (wn))), x4, x5] [] μ4 := by
              intro ks' μ4 PE4 z4 RU4 FO4 hb4
              refine mj_iinc (L' := [_, _, _, _, _, _]) dMod_analyse_134 rfl rfl (by decide) rfl ?_
              refine mj_goto (tgt := 65) dMod_analyse_137 (by decide) ?_
              rw [show nI wn + Int32.ofInt 1 = nI (wn + 1) from nI_1 wn]
              exact ihj (wn + 1) ks' μ4 _ _ (by omega) PE4 z4 RU4 FO4 hb4
            have IF := c_Mod_isFound (l := l) (G := G) (d := d) (m := m) (wd := digs es.length n wn) (by omega) (by omega) (HV.pe PE3) (HE.pe PE3) RU3 FO3 ⟨fun i hi => hwd i (by omega), digs_lt hE n wn⟩
            rw [hdl] at IF
            refine mj_aload_n dMod_analyse_112 rfl ?_
            refine mj_iload_n dMod_analyse_113 rfl ?_
            refine mj_p1 dMod_analyse_114 ip_Mod_195 cd_Mod_isFound ar_Mod_isFound (IF) (by dsimp only; omega) (Nat.le_of_ble_eq_true rfl) (fun E m9 q9 => by simp at q9) (fun v9 μ4 hq => ?_)
            obtain ⟨e, FO4, FK4, QF⟩ := hq
            cases e
            have PE4 := PE3.trans QF.pe
            have z4 : μ4 0 0 = 0 := (QF _ _ (by omega)).trans z3
            refine mj_if_eq (tgt := 134) dMod_analyse_117 (by decide) (fun hc4 => ?_) (fun hc4 => ?_)
            · exact next ks μ4 PE4 z4 (RU3.qf QF) FO4 (by rw [← hb, afold, bI_0.mp hc4]; rfl)
            have hfd := bI_1 hc4
            refine mj_aload_n dMod_analyse_120 rfl ?_
            refine mj_p0 dMod_analyse_121 ip_Mod_188 cd_Mod_put ar_Mod_put (c_Mod_put (d := d) (ak_vt hB (by omega) (fun e he => by have := digs_lt hE n wn e he; omega) hfd) FO4 (FK4 hfd)) (by dsimp only; omega) (Nat.le_of_ble_eq_true rfl) (fun E m9 q9 => by simp at q9) (fun v8 μ5 hq => ?_)
            obtain ⟨e, FO5, FP5⟩ := hq
            cases e
            have PE5 := PE4.trans FP5.pe
            have z5 : μ5 0 0 = 0 := (FP5 _ _ (by omega)).trans z4
            refine mj_if_ne (tgt := 134) dMod_analyse_124 (by decide) (fun hc5 => ?_) (fun hc5 => ?_)
            · have hz : (radd (ks, false) (ak es (digs es.length n wn))).2 = false := by have := bI_1 hc5; simpa using this
              exact next _ μ5 PE5 z5 ((RU3.qf QF).fp FP5) FO5 (by rw [← hb, afold, if_pos hfd, hz]; rfl)
            have hz : (radd (ks, false) (ak es (digs es.length n wn))).2 = true := by have := bI_0.mp hc5; simpa using this
            rw [afold, if_pos hfd, if_pos hz] at hb
            refine mj_aload_n dMod_analyse_127 rfl ?_
            refine mj_iconst (v := nI 1) dMod_analyse_128 (by decide) ?_
            refine mj_put dMod_analyse_129 (fp_Mod_107 _) (by decide) ?_
            refine mj_iconst (v := nI 0) dMod_analyse_132 (by decide) ?_
            exact mj_iret dMod_analyse_133 rfl (Or.inl ⟨by rw [← hb], rfl, mup_s _ _ _ _, PE5.up (by omega)⟩)
          have dloop : ∀ (p rest : Nat) (sfx : List Nat) (μ3 : xMu), p ≤ n → rest ≤ wn → sfx.length = n - p → digs es.length n wn = digs es.length p rest ++ sfx → Pe μ μ3 → μ3 0 0 = 0 → Ru9 μ3 u → Fo μ3 ks → (∀ i, i < sfx.length → μ3 32 (p + i) = nI (sfx.getD i 0)) → Mj (l, G, d + 9, m, fun o μ' => Wr μ (afold V es u (remN es.length 4) []) o μ') mMod_analyse 78 [some (.ref m), some (.int (nI (n))), some (.int (nI (es.length ^ n))), some (.int (nI (wn))), some (.int (nI (rest))), some (.int (nI p - nI 1))] [] μ3 := by
            intro p
            induction p with
            | zero =>
              intro rest sfx μ3 hp hrw hl hd PE3 z3 RU3 FO3 hs
              refine mj_iload dMod_analyse_78 rfl ?_
              refine mj_if_lt (tgt := 112) dMod_analyse_80 (by decide) (fun hc4 => ?_) (fun hc4 => ?_)
              · refine t112 μ3 _ _ PE3 z3 RU3 FO3 (fun i hi => ?_)
                rw [hd, digs, List.nil_append]
                have := hs i (by omega)
                rwa [Nat.zero_add] at this
              · exact absurd (by decide) hc4
            | succ p ihp =>
              intro rest sfx μ3 hp hrw hl hd PE3 z3 RU3 FO3 hs
              rw [show nI (p + 1) - nI 1 = nI p from pk_sub (a := p + 1) (b := 1) (by omega)]
              obtain ⟨e13, -⟩ := HE.pe PE3
              refine mj_iload dMod_analyse_78 rfl ?_
              refine mj_if_lt (tgt := 112) dMod_analyse_80 (by decide) (fun hc4 => ?_) (fun hc4 => ?_)
              · exact absurd hc4 (nI_pos (by omega))
              refine mj_aload_n dMod_analyse_83 rfl ?_
              refine mj_get dMod_analyse_84 fg_Mod_104 rfl ?_
              refine mj_iload dMod_analyse_87 rfl ?_
              refine mj_iload dMod_analyse_89 rfl ?_
              refine mj_aload_n dMod_analyse_91 rfl ?_
              refine mj_get dMod_analyse_92 fg_Mod_128 rfl ?_
              rw [e13]
              refine mj_irem dMod_analyse_95 (nI_ne0 hE (by omega)) ?_
              rw [pk_rem (by omega) hE (by omega)]
              refine mj_iastore dMod_analyse_96 (by decide) rfl (show _ < 4 by omega) (by decide) ?_
              refine mj_iload dMod_analyse_97 rfl ?_
              refine mj_aload_n dMod_analyse_99 rfl ?_
              refine mj_get dMod_analyse_100 fg_Mod_128 rfl ?_
              rw [show mup μ3 32 p (nI (rest % es.length)) 0 12 = nI es.length from by rw [mup_k _ _ (by decide)]; exact e13]
              refine mj_idiv dMod_analyse_103 (nI_ne0 hE (by omega)) ?_
              rw [pk_div (by omega) hE (by omega)]
              refine mj_istore (L' := [_, _, _, _, _, _]) dMod_analyse_104 (by decide) rfl ?_
              refine mj_iinc (L' := [_, _, _, _, _, _]) dMod_analyse_106 rfl rfl (by decide) rfl ?_
              refine mj_goto (tgt := 78) dMod_analyse_109 (by decide) ?_
              rw [show nI p + Int32.ofInt (-1) = nI p - nI 1 from by rw [show Int32.ofInt (-1) = -nI 1 from by decide, ← Int32.sub_eq_add_neg]]
              refine ihp (rest / es.length) ((rest % es.length) :: sfx) _ (by omega) (Nat.le_trans (Nat.div_le_self _ _) hrw) (by rw [List.length_cons]; omega) (by rw [hd, digs, List.append_assoc]; rfl) (PE3.up (by omega)) (by rw [mup_k _ _ (by decide)]; exact z3) ⟨by rw [mup_k _ _ (by decide)]; exact RU3.1, fun i hi => by rw [mup_k _ _ (by decide)]; exact RU3.2.1 i hi, RU3.2.2⟩ (FO3.eq (fun a b h => mup_k _ _ (by omega))) (fun i hi => ?_)
              cases i with
              | zero => rw [Nat.add_zero, mup_s]; rfl
              | succ i =>
                rw [mup_j _ _ (by omega)]
                have := hs i (by rw [List.length_cons] at hi; omega)
                rw [show p + 1 + i = p + (i + 1) by omega] at this
                rw [this]; rfl
          refine mj_iload_n dMod_analyse_65 rfl ?_
          refine mj_iload_n dMod_analyse_66 rfl ?_
          refine mj_icmp_ge (tgt := 140) dMod_analyse_67 (by decide) (fun hc3 => ?_) (fun hc3 => ?_)
          · exact absurd hc3 (nI_ge (by omega) (by omega))
          refine mj_iload_n dMod_analyse_70 rfl ?_
          refine mj_istore (L' := [_, _, _, _, _, _]) dMod_analyse_71 (by decide) rfl ?_
          refine mj_iload_n dMod_analyse_73 rfl ?_
          refine mj_iconst (v := nI 1) dMod_analyse_74 (by decide) ?_
          refine mj_isub dMod_analyse_75 ?_
          refine mj_istore (L' := [_, _, _, _, _, _]) dMod_analyse_76 (by decide) rfl ?_
          exact dloop n wn [] μ2 (Nat.le_refl _) (Nat.le_refl _) (by simp) (by rw [List.append_nil]) PE z0 RU FO (fun i hi => absurd hi (Nat.not_lt_zero _))
      have many : ∀ (j i : Nat) x4 x5, i + j = n → Mj (l, G, d + 9, m, fun o μ' => Wr μ (afold V es u (remN es.length 4) []) o μ') mMod_analyse 45 [some (.ref m), some (.int (nI (n))), some (.int (nI (es.length ^ i))), some (.int (nI (i))), x4, x5] [] μ1 := by
        intro j
        induction j with
        | zero =>
          intro i x4 x5 hij
          have e : i = n := by omega
          subst e
          refine mj_iload_n dMod_analyse_45 rfl ?_
          refine mj_iload_n dMod_analyse_46 rfl ?_
          refine mj_icmp_ge (tgt := 63) dMod_analyse_47 (by decide) (fun hc3 => ?_) (fun hc3 => ?_)
          · refine mj_iconst (v := nI 0) dMod_analyse_63 (by decide) ?_
            refine mj_istore_n (L' := [_, _, _, _, _, _]) dMod_analyse_64 (by decide) rfl ?_
            exact wloop (es.length ^ i) 0 ks μ1 _ _ (by omega) PE z0 RU FO hb
          · exact absurd (nI_le (by omega) (by omega)) hc3
        | succ j ihj =>
          intro i x4 x5 hij
          refine mj_iload_n dMod_analyse_45 rfl ?_
          refine mj_iload_n dMod_analyse_46 rfl ?_
          refine mj_icmp_ge (tgt := 63) dMod_analyse_47 (by decide) (fun hc3 => ?_) (fun hc3 => ?_)
          · exact absurd hc3 (nI_ge (by omega) (by omega))
          refine mj_iload_n dMod_analyse_50 rfl ?_
          refine mj_aload_n dMod_analyse_51 rfl ?_
          refine mj_get dMod_analyse_52 fg_Mod_128 rfl ?_
          refine mj_imul dMod_analyse_55 ?_
          rw [e1, pk_mul, ← Nat.pow_succ]
          refine mj_istore_n (L' := [_, _, _, _, _, _]) dMod_analyse_56 (by decide) rfl ?_
          refine mj_iinc (L' := [_, _, _, _, _, _]) dMod_analyse_57 rfl rfl (by decide) rfl ?_
          refine mj_goto (tgt := 45) dMod_analyse_60 (by decide) ?_
          rw [show nI i + Int32.ofInt 1 = nI (i + 1) from nI_1 i]
          exact ihj (i + 1) _ _ (by omega)
      refine mj_iconst (v := nI 1) dMod_analyse_41 (by decide) ?_
      refine mj_istore_n (L' := [_, _, _, _, _, _]) dMod_analyse_42 (by decide) rfl ?_
      refine mj_iconst (v := nI 0) dMod_analyse_43 (by decide) ?_
      refine mj_istore_n (L' := [_, _, _, _, _, _]) dMod_analyse_44 (by decide) rfl ?_
      exact many n 0 _ _ (by omega)
  have P1 : Pe μ (mup μ 0 0 (nI 0)) := Pe.rf.up (by omega)
  have l2' := (P1 14 1 (by omega)).trans l2
  refine mc_of (L := [_, _, _, _, _, _]) (by decide) (Nat.le_of_ble_eq_true rfl) rfl ?_
  refine mj_aload_n dMod_analyse_0 rfl ?_
  refine mj_iconst (v := nI 0) dMod_analyse_1 (by decide) ?_
  refine mj_put dMod_analyse_2 (fp_Mod_107 _) (by decide) ?_
  have z0 : mup μ 0 0 (nI 0) 0 0 = 0 := mup_s _ _ _ _
  have l4' : ∀ i, i < u.length → mup μ 0 0 (nI 0) 15 (5 + i) = nI (u.getD i 0) := fun i hi => (P1 _ _ (by omega)).trans (l4 i hi)
  generalize mup μ 0 0 (nI 0) = μ1 at *
  refine mj_aload_n dMod_analyse_5 rfl ?_
  refine mj_aload_n dMod_analyse_6 rfl ?_
  refine mj_get dMod_analyse_7 fg_Mod_53 rfl ?_
  refine mj_iconst (v := nI 0) dMod_analyse_10 (by decide) ?_
  refine mj_iconst (v := nI 0) dMod_analyse_11 (by decide) ?_
  refine mj_iconst (v := nI 5) dMod_analyse_12 (by decide) ?_
  refine mj_aload_n dMod_analyse_13 rfl ?_
  refine mj_get dMod_analyse_14 fg_Mod_50 rfl ?_
  refine mj_iconst (v := nI 1) dMod_analyse_17 (by decide) ?_
  refine mj_iaload dMod_analyse_18 (by decide) rfl (show _ < 2 by decide) (by decide) ?_
  rw [l2']
  refine mj_p5 dMod_analyse_19 ip_Mod_174 cd_Mod_take ar_Mod_take (c_Mod_take (d := d) (k := 15) (a := 0) (b := 5) (w := []) (u := u) (Or.inl rfl) (by decide) (show 5 + u.length ≤ 10 by omega) (by decide) l6 (fun i => by simp) l8 (fun i hi => absurd hi (Nat.not_lt_zero _)) l4') (by dsimp only; omega) (Nat.le_of_ble_eq_true rfl) (fun E m9 q9 => by simp at q9) (fun v9 μ2 hq => ?_)
  obtain ⟨e, W2, T2⟩ := hq
  cases e
  refine mj_aload_n dMod_analyse_22 rfl ?_
  refine mj_iconst (v := nI 0) dMod_analyse_23 (by decide) ?_
  refine mj_put dMod_analyse_24 (fp_Mod_181 _) (by decide) ?_
  refine mj_iconst (v := nI 1) dMod_analyse_27 (by decide) ?_
  refine mj_istore_n (L' := [_, _, _, _, _, _]) dMod_analyse_28 (by decide) rfl ?_
  exact outer 4 1 [] _ _ _ _ _ rfl (Nat.le_refl _) ((P1.trans T2.pe).up (by omega)) (by rw [mup_j _ _ (by decide), T2 _ _ (by omega)]; exact z0) ⟨by rw [mup_j _ _ (by decide)]; exact W2.2.1, fun i hi => by rw [mup_k _ _ (by decide)]; exact W2.2.2.2.1 i hi, l6, l8⟩ (Fo.nil (mup_s _ _ _ _)) rfl
end MANA2
