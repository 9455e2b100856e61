/-! nextAlignment. -/
def VDs (V : xV) (w row : List Nat) : Prop := ∀ i, i ≤ row.length → Vd V w (row.take i)
theorem VDs.me {V : xV} {w row : List Nat} (H : VDs V w row) : Vd V w row := by
  have := H row.length (Nat.le_refl _)
  rwa [List.take_length] at this
theorem VDs.nil {V : xV} {w : List Nat} : VDs V w [] := fun i hi => by
  have e : i = 0 := by simpa using hi
  subst e
  exact ⟨Nat.zero_le _, by simp, fun _ => by simp⟩
theorem VDs.push {V : xV} {w u row : List Nat} {gv : Bool} {p : Nat} (H : VDs V w row) (h : okR V w u gv row p = true) : VDs V w (row ++ [p]) := fun i hi => by
  rw [List.length_append, List.length_singleton] at hi
  by_cases e : i = row.length + 1
  · rw [e, List.take_of_length_le (by simp)]; exact H.me.push h
  · rw [List.take_append_of_le_length (by omega)]; exact H i (by omega)
theorem VDs.pop {V : xV} {w row : List Nat} {p : Nat} (H : VDs V w (row ++ [p])) : VDs V w row := fun i hi => by
  have := H i (by rw [List.length_append]; omega)
  rwa [List.take_append_of_le_length hi] at this
theorem post_eq {V : xV} {w u : List Nat} {gv : Bool} {f : Nat} {row : List Nat} : post V w u gv (f + 1) row = kids V w u gv f row 0 ++ self9 V w u gv row 0 := by
  rw [post, kids, self9]
  congr 1
  by_cases q : fullR V w u gv row = true
  · rw [if_pos q, if_pos ⟨Nat.zero_le _, q⟩]
  · rw [if_neg q, if_neg (fun z => q z.2)]
theorem cst_eq {V : xV} {w u : List Nat} {gv : Bool} {f : Nat} {row : List Nat} : cst V w u gv (f + 1) row = kcst V w u gv f row 0 + 2 := rfl
def Nx (V : xV) (w u : List Nat) (gv : Bool) (ρ : List (List Nat)) (o : xO) (μ' : xMu) : Prop := match ρ with
  | [] => o = rI (bI false)
  | a :: more => o = rI (bI true) ∧ Sk μ' V a (V.1.length + 1) ∧ VDs V w a ∧ restR V w u gv a.reverse (V.1.length + 1) = more
theorem rest_full {V : xV} {w u : List Nat} {gv : Bool} {row : List Nat} (h : fullR V w u gv row = true) : restR V w u gv row.reverse V.1.length = row :: restR V w u gv row.reverse (V.1.length + 1) := by
  rw [restR_eq, restR_eq, kids_end (Nat.le_refl _), kids_end (Nat.le_succ _), List.reverse_reverse, self9, self9, if_pos ⟨Nat.le_refl _, h⟩, if_neg (fun z => absurd z.1 (by omega))]; rfl
theorem rest_skip {V : xV} {w u : List Nat} {gv : Bool} {row : List Nat} (h : ¬ fullR V w u gv row = true) : restR V w u gv row.reverse V.1.length = restR V w u gv row.reverse (V.1.length + 1) := by
  rw [restR_eq, restR_eq, kids_end (Nat.le_refl _), kids_end (Nat.le_succ _), List.reverse_reverse, self9, self9, if_neg (fun z => h z.2), if_neg (fun z => absurd z.1 (by omega))]
theorem cost_np {V : xV} {w u : List Nat} {gv : Bool} {rv : List Nat} : costR V w u gv rv V.1.length = costR V w u gv rv (V.1.length + 1) + 1 := by
  rw [costR_eq, costR_eq, kcst_end (Nat.le_refl _), kcst_end (Nat.le_succ _), if_pos (Nat.le_refl _), if_neg (by omega)]; omega
theorem self9_step {V : xV} {w u : List Nat} {gv : Bool} {row : List Nat} {t : Nat} (ht : t < V.1.length) : self9 V w u gv row t = self9 V w u gv row (t + 1) := by
  rw [self9, self9]
  by_cases q : fullR V w u gv row = true
  · rw [if_pos ⟨by omega, q⟩, if_pos ⟨by omega, q⟩]
  · rw [if_neg (fun z => q z.2), if_neg (fun z => q z.2)]
theorem rest_no {V : xV} {w u : List Nat} {gv : Bool} {row : List Nat} {t : Nat} (ht : t < V.1.length) (h : okR V w u gv row t = false) : restR V w u gv row.reverse t = restR V w u gv row.reverse (t + 1) ∧ costR V w u gv row.reverse t = costR V w u gv row.reverse (t + 1) + 1 := by
  constructor
  · rw [restR_eq, restR_eq, kids_step ht, List.reverse_reverse, h, if_neg (show ¬ false = true by decide), List.nil_append, self9_step ht]
  · rw [costR_eq, costR_eq, kcst_step ht, List.reverse_reverse, h, if_neg (show ¬ false = true by decide), if_pos (show t ≤ V.1.length by omega), if_pos (show t + 1 ≤ V.1.length by omega)]; omega
theorem rest_push {V : xV} {w u : List Nat} {gv : Bool} {row : List Nat} {t : Nat} (ht : t < V.1.length) (hl : row.length ≤ 8) (h : okR V w u gv row t = true) : restR V w u gv row.reverse t = restR V w u gv (row ++ [t]).reverse 0 ∧ costR V w u gv row.reverse t = costR V w u gv (row ++ [t]).reverse 0 + 1 := by
  have e : (row ++ [t]).reverse = t :: row.reverse := by simp
  have el : 9 - row.reverse.length = (8 - row.reverse.length) + 1 := by rw [List.length_reverse]; omega
  have er : (t :: row.reverse).reverse = row ++ [t] := by simp
  constructor
  · rw [e, restR, restR_eq, restR_eq, kids_step ht, List.reverse_reverse, h, if_pos rfl, el, post_eq, er]
    have hs : self9 V w u gv row t = self9 V w u gv row (t + 1) := by
      rw [self9, self9]
      by_cases q : fullR V w u gv row = true
      · rw [if_pos ⟨by omega, q⟩, if_pos ⟨by omega, q⟩]
      · rw [if_neg (fun z => q z.2), if_neg (fun z => q z.2)]
    rw [hs]
    simp only [List.append_assoc]
  · rw [e, costR, costR_eq, costR_eq, kcst_step ht, List.reverse_reverse, h, if_pos rfl, el, cst_eq, er, if_pos (by omega), if_pos (by omega), if_pos (by omega)]
    omega
theorem rest_pop {V : xV} {w u : List Nat} {gv : Bool} {row : List Nat} {q : Nat} : restR V w u gv (row ++ [q]).reverse (V.1.length + 1) = restR V w u gv row.reverse (q + 1) ∧ costR V w u gv (row ++ [q]).reverse (V.1.length + 1) = costR V w u gv row.reverse (q + 1) + 1 := by
  have e : (row ++ [q]).reverse = q :: row.reverse := by simp
  constructor
  · rw [e, restR, kids_end (Nat.le_succ _), self9, if_neg (fun z => absurd z.1 (by omega))]; rfl
  · rw [e, costR, kcst_end (Nat.le_succ _), if_neg (by omega)]; omega
section MNEXT2
variable {l : Launch} {G : xG} {d m : Nat} {μ : xMu} {V : xV} {row w u : List Nat} {gv : Bool}
theorem c_Mod_next {t : Nat} {ρ : List (List Nat)} (HV : Rv μ V) (HW : Rw μ w u) (HS : Sk μ V row t) (HD : VDs V w row) (hρ : restR V w u gv row.reverse t = ρ) : Mc l G mMod_nextAlignment (d + 1) m [.ref m, .int (bI gv)] μ (fun o μ' => Ss μ μ' ∧ Nx V w u gv ρ o μ') := by
  have loop : ∀ (N : Nat) (row : List Nat) (t : Nat) (μ1 : xMu) (x2 : Option Value), costR V w u gv row.reverse t ≤ N → Ss μ μ1 → Sk μ1 V row t → VDs V w row → restR V w u gv row.reverse t = ρ → Mj (l, G, d + 1, m, fun o μ' => Ss μ μ' ∧ Nx V w u gv ρ o μ') mMod_nextAlignment 0 [some (.ref m), some (.int (bI gv)), x2] [] μ1 := by
    intro N
    induction N with
    | zero =>
      intro row t μ1 x2 hN
      rw [costR_eq] at hN
      split at hN <;> omega
    | succ N ih =>
      intro row t μ1 x2 hN SS SK VD hr
      have HV1 := HV.ss SS
      have HW1 := HW.ss SS
      obtain ⟨v1, v2, v3, v4, v5, v6, v7, v8, v9, v10, v11, v12, v13, v14⟩ := id HV1
      obtain ⟨y1, y2, y3, y4, y5, y6, y7, y8⟩ := id HW1
      obtain ⟨⟨s1, s2, s3, s4⟩, s5, s6, s7⟩ := id SK
      have hn := VD.me.len y5
      have hlc := lowc_le V row
      have huc := upc_le V row
      have s3n := s3 row.length (Nat.le_refl _)
      rw [List.take_length] at s3n
      refine mj_aload_n dMod_nextAlignment_0 rfl ?_
      refine mj_get dMod_nextAlignment_1 fg_Mod_144 rfl ?_
      rw [s1]
      refine mj_if_lt (tgt := 222) dMod_nextAlignment_4 (by decide) (fun hc => ?_) (fun hc => ?_)
      · exact absurd hc (nI_pos (by omega))
      refine mj_aload_n dMod_nextAlignment_7 rfl ?_
      refine mj_get dMod_nextAlignment_8 fg_Mod_95 rfl ?_
      refine mj_aload_n dMod_nextAlignment_11 rfl ?_
      refine mj_get dMod_nextAlignment_12 fg_Mod_144 rfl ?_
      refine mj_iaload dMod_nextAlignment_15 (by decide) s1 (show _ < 12 by omega) (by decide) ?_
      rw [s6]
      refine mj_istore_n (L' := [_, _, _]) dMod_nextAlignment_16 (by decide) rfl ?_
      refine mj_iload_n dMod_nextAlignment_17 rfl ?_
      refine mj_aload_n dMod_nextAlignment_18 rfl ?_
      refine mj_get dMod_nextAlignment_19 fg_Mod_115 rfl ?_
      rw [v1]
      refine mj_icmp_ne (tgt := 76) dMod_nextAlignment_22 (by decide) (fun hc2 => ?_) (fun hc2 => ?_)
      rotate_left
      · have ht : t = V.1.length := (nI_eq (by omega) (by omega)).mp hc2
        subst ht
        have SK1 := SK.tr (t' := V.1.length + 1) (Nat.le_refl _)
        have SS1 : Ss μ (mup μ1 29 row.length (nI (V.1.length + 1))) := SS.up (by omega)
        refine mj_aload_n dMod_nextAlignment_25 rfl ?_
        refine mj_get dMod_nextAlignment_26 fg_Mod_95 rfl ?_
        refine mj_aload_n dMod_nextAlignment_29 rfl ?_
        refine mj_get dMod_nextAlignment_30 fg_Mod_144 rfl ?_
        refine mj_dup2 dMod_nextAlignment_33 rfl rfl ?_
        refine mj_iaload dMod_nextAlignment_34 (by decide) s1 (show _ < 12 by omega) (by decide) ?_
        refine mj_iconst (v := nI 1) dMod_nextAlignment_35 (by decide) ?_
        rw [s6]
        refine mj_iadd dMod_nextAlignment_36 ?_
        rw [show nI V.1.length + nI 1 = nI (V.1.length + 1) from nI_add _ _]
        refine mj_iastore dMod_nextAlignment_37 (by decide) s1 (show _ < 12 by omega) (by decide) ?_
        have HW2 := HW.ss SS1
        obtain ⟨⟨p1, p2, p3, p4⟩, p5, p6, p7⟩ := id SK1
        have p3n := p3 row.length (Nat.le_refl _)
        rw [List.take_length] at p3n
        have again : fullR V w u gv row = false → Mj (l, G, d + 1, m, fun o μ' => Ss μ μ' ∧ Nx V w u gv ρ o μ') mMod_nextAlignment 219 [some (.ref m), some (.int (bI gv)), some (.int (nI V.1.length))] [] (mup μ1 29 row.length (nI (V.1.length + 1))) := by
          intro hf
          refine mj_goto (tgt := 0) dMod_nextAlignment_219 (by decide) ?_
          have c1 := cost_np (V := V) (w := w) (u := u) (gv := gv) (rv := row.reverse)
          exact ih row _ _ _ (by omega) SS1 SK1 VD (by rw [← hr]; exact (rest_skip (by rw [hf]; decide)).symm)
        have good : fullR V w u gv row = true → Mj (l, G, d + 1, m, fun o μ' => Ss μ μ' ∧ Nx V w u gv ρ o μ') mMod_nextAlignment 74 [some (.ref m), some (.int (bI gv)), some (.int (nI V.1.length))] [] (mup μ1 29 row.length (nI (V.1.length + 1))) := by
          intro hf
          refine mj_iconst (v := nI 1) dMod_nextAlignment_74 (by decide) ?_
          refine mj_zret dMod_nextAlignment_75 rfl (by decide) ⟨SS1, ?_⟩
          rw [← hr, rest_full hf]
          exact ⟨rfl, SK1, VD, rfl⟩
        generalize mup μ1 29 row.length (nI (V.1.length + 1)) = μ2 at *
        refine mj_aload_n dMod_nextAlignment_38 rfl ?_
        refine mj_get dMod_nextAlignment_39 fg_Mod_98 rfl ?_
        refine mj_aload_n dMod_nextAlignment_42 rfl ?_
        refine mj_get dMod_nextAlignment_43 fg_Mod_144 rfl ?_
        refine mj_iaload dMod_nextAlignment_46 (by decide) p1 (show _ < 12 by omega) (by decide) ?_
        refine mj_aload_n dMod_nextAlignment_47 rfl ?_
        refine mj_get dMod_nextAlignment_48 fg_Mod_153 rfl ?_
        rw [p3n.1, HW2.1]
        refine mj_icmp_ne (tgt := 219) dMod_nextAlignment_51 (by decide) (fun hc3 => ?_) (fun hc3 => ?_)
        · refine again ?_
          have q : ¬ lowc V row = w.length := fun z => hc3 (by rw [z])
          unfold fullR; rw [show (lowc V row == w.length) = false from by rw [beq_eq_false_iff_ne]; exact q]; rfl
        have q : (lowc V row == w.length) = true := by rw [beq_iff_eq]; exact (nI_eq (by omega) (by omega)).mp hc3
        refine mj_iload_n dMod_nextAlignment_54 rfl ?_
        cases gv with
        | true =>
          refine mj_if_eq (tgt := 74) dMod_nextAlignment_55 (by decide) (fun hc4 => ?_) (fun hc4 => ?_)
          · exact absurd hc4 (by decide)
          refine mj_aload_n dMod_nextAlignment_58 rfl ?_
          refine mj_get dMod_nextAlignment_59 fg_Mod_101 rfl ?_
          refine mj_aload_n dMod_nextAlignment_62 rfl ?_
          refine mj_get dMod_nextAlignment_63 fg_Mod_144 rfl ?_
          refine mj_iaload dMod_nextAlignment_66 (by decide) p1 (show _ < 12 by omega) (by decide) ?_
          refine mj_aload_n dMod_nextAlignment_67 rfl ?_
          refine mj_get dMod_nextAlignment_68 fg_Mod_156 rfl ?_
          rw [p3n.2, HW2.2.1]
          refine mj_icmp_ne (tgt := 219) dMod_nextAlignment_71 (by decide) (fun hc5 => ?_) (fun hc5 => ?_)
          · exact again (by unfold fullR; rw [q]; show (upc V row == u.length) = false; rw [beq_eq_false_iff_ne]; exact fun z => hc5 (by rw [z]))
          · exact good (by unfold fullR; rw [q]; show (upc V row == u.length) = true; rw [beq_iff_eq]; exact (nI_eq (by omega) (by omega)).mp hc5)
        | false =>
          refine mj_if_eq (tgt := 74) dMod_nextAlignment_55 (by decide) (fun hc4 => ?_) (fun hc4 => ?_)
          · exact good (by unfold fullR; rw [q]; rfl)
          · exact absurd rfl hc4
      have hne : ¬ t = V.1.length := fun z => hc2 (by rw [z])
      refine mj_iload_n dMod_nextAlignment_76 rfl ?_
      refine mj_aload_n dMod_nextAlignment_77 rfl ?_
      refine mj_get dMod_nextAlignment_78 fg_Mod_115 rfl ?_
      rw [v1]
      refine mj_icmp_le (tgt := 97) dMod_nextAlignment_81 (by decide) (fun hc3 => ?_) (fun hc3 => ?_)
      rotate_left
      · rw [nI_leI (by omega) (by omega)] at hc3
        have ht : t = V.1.length + 1 := by omega
        subst ht
        refine mj_aload_n dMod_nextAlignment_84 rfl ?_
        refine mj_dup dMod_nextAlignment_85 rfl ?_
        refine mj_get dMod_nextAlignment_86 fg_Mod_144 rfl ?_
        refine mj_iconst (v := nI 1) dMod_nextAlignment_89 (by decide) ?_
        refine mj_isub dMod_nextAlignment_90 ?_
        rw [s1]
        refine mj_put dMod_nextAlignment_91 (fp_Mod_144 _) (by decide) ?_
        refine mj_goto (tgt := 219) dMod_nextAlignment_94 (by decide) ?_
        refine mj_goto (tgt := 0) dMod_nextAlignment_219 (by decide) ?_
        have SS1 : Ss μ (mup μ1 0 36 (nI row.length - nI 1)) := SS.up (by omega)
        rcases List.eq_nil_or_concat row with z | ⟨ini, q, z⟩
        · subst z
          refine mj_aload_n dMod_nextAlignment_0 rfl ?_
          refine mj_get dMod_nextAlignment_1 fg_Mod_144 rfl ?_
          rw [mup_s]
          refine mj_if_lt (tgt := 222) dMod_nextAlignment_4 (by decide) (fun hc4 => ?_) (fun hc4 => ?_)
          · refine mj_iconst (v := nI 0) dMod_nextAlignment_222 (by decide) ?_
            refine mj_zret dMod_nextAlignment_223 rfl (by decide) ⟨SS1, ?_⟩
            rw [← hr, show ([] : List Nat).reverse = [] from rfl, restR, kids_end (Nat.le_succ _), self9, if_neg (fun z => absurd z.1 (by omega))]
            rfl
          · exact absurd (by decide) hc4
        · rw [List.concat_eq_append] at z
          subst z
          have hr2 := rest_pop (V := V) (w := w) (u := u) (gv := gv) (row := ini) (q := q)
          have hlen : (ini ++ [q]).length = ini.length + 1 := by simp
          have hq : q < V.1.length := s4 q (by simp)
          refine ih ini (q + 1) _ _ (by omega) SS1 ⟨⟨?_, fun i hi => ?_, fun i hi => ?_, fun p hp => s4 p (List.mem_append_left _ hp)⟩, fun i hi => ?_, ?_, by omega⟩ VD.pop (by rw [← hr]; exact hr2.1.symm)
          · rw [mup_s, hlen, pk_sub (by omega)]; rfl
          · rw [mup_k _ _ (by decide), s2 i (by omega), getD_snoc' (by omega)]
          · have z := s3 i (by omega)
            rw [List.take_append_of_le_length hi] at z
            rw [mup_k _ _ (by decide), mup_k _ _ (by decide)]; exact z
          · rw [mup_k _ _ (by decide), s5 i (by omega), getD_snoc' (by omega)]
          · rw [mup_k _ _ (by decide), s5 ini.length (by omega), getD_snoc]
      rw [nI_leI (by omega) (by omega)] at hc3
      have ht : t < V.1.length := by omega
      have SK1 := SK.tr (t' := t + 1) (by omega)
      have SS1 : Ss μ (mup μ1 29 row.length (nI (t + 1))) := SS.up (by omega)
      refine mj_aload_n dMod_nextAlignment_97 rfl ?_
      refine mj_get dMod_nextAlignment_98 fg_Mod_95 rfl ?_
      refine mj_aload_n dMod_nextAlignment_101 rfl ?_
      refine mj_get dMod_nextAlignment_102 fg_Mod_144 rfl ?_
      refine mj_dup2 dMod_nextAlignment_105 rfl rfl ?_
      refine mj_iaload dMod_nextAlignment_106 (by decide) s1 (show _ < 12 by omega) (by decide) ?_
      refine mj_iconst (v := nI 1) dMod_nextAlignment_107 (by decide) ?_
      rw [s6]
      refine mj_iadd dMod_nextAlignment_108 ?_
      rw [show nI t + nI 1 = nI (t + 1) from nI_add _ _]
      refine mj_iastore dMod_nextAlignment_109 (by decide) s1 (show _ < 12 by omega) (by decide) ?_
      refine mj_aload_n dMod_nextAlignment_110 rfl ?_
      refine mj_iload_n dMod_nextAlignment_111 rfl ?_
      refine mj_iload_n dMod_nextAlignment_112 rfl ?_
      generalize mup μ1 29 row.length (nI (t + 1)) = μ2 at *
      have HV2 := HV.ss SS1
      have HW2 := HW.ss SS1
      obtain ⟨⟨p1, p2, p3, p4⟩, p5, p6, p7⟩ := id SK1
      have p3n := p3 row.length (Nat.le_refl _)
      rw [List.take_length] at p3n
      refine mj_p2 dMod_nextAlignment_113 ip_Mod_159 cd_Mod_mayCome ar_Mod_mayCome (c_Mod_mayCome (d := d) (p := t) (gv := gv) ht (by omega) HV2 HW2 SK1.1) (by dsimp only; omega) (Nat.le_of_ble_eq_true rfl) (fun E m9 q9 => by simp at q9) (fun v9 μ9 hq => ?_)
      obtain ⟨e, e1⟩ := hq
      cases e
      rw [e1]
      refine mj_if_eq (tgt := 219) dMod_nextAlignment_116 (by decide) (fun hc4 => ?_) (fun hc4 => ?_)
      · refine mj_goto (tgt := 0) dMod_nextAlignment_219 (by decide) ?_
        have c1 := rest_no ht (bI_0.mp hc4)
        exact ih row _ _ _ (by omega) SS1 SK1 VD (by rw [← hr]; exact c1.1.symm)
      have hok := bI_1 hc4
      have VD2 := VD.push hok
      have hl8 : row.length ≤ 8 := by have := VD2.me.len y5; rw [List.length_append, List.length_singleton] at this; omega
      have c1 := rest_push ht hl8 hok
      obtain ⟨e1, e2, e3, -⟩ := id HV2
      have b3 := e3 t ht
      have bb := v9 _ (getD_mem (d := (0, 0)) ht)
      refine mj_aload_n dMod_nextAlignment_119 rfl ?_
      refine mj_get dMod_nextAlignment_120 fg_Mod_92 rfl ?_
      refine mj_aload_n dMod_nextAlignment_123 rfl ?_
      refine mj_get dMod_nextAlignment_124 fg_Mod_144 rfl ?_
      refine mj_iload_n dMod_nextAlignment_127 rfl ?_
      refine mj_iastore dMod_nextAlignment_128 (by decide) p1 (show _ < 12 by omega) (by decide) ?_
      have f1 : mup μ2 28 row.length (nI t) 0 36 = nI row.length := by rw [mup_k _ _ (by decide)]; exact p1
      have f2 : ∀ i, mup μ2 28 row.length (nI t) 30 i = μ2 30 i := fun i => mup_k _ _ (by decide)
      have f3 : ∀ i, mup μ2 28 row.length (nI t) 31 i = μ2 31 i := fun i => mup_k _ _ (by decide)
      have f4 : ∀ i, mup μ2 28 row.length (nI t) 1 i = μ2 1 i := fun i => mup_k _ _ (by decide)
      have f5 : ∀ i, mup μ2 28 row.length (nI t) 2 i = μ2 2 i := fun i => mup_k _ _ (by decide)
      have f6 : ∀ i, mup μ2 28 row.length (nI t) 29 i = μ2 29 i := fun i => mup_k _ _ (by decide)
      have f7 : ∀ i, i < row.length → mup μ2 28 row.length (nI t) 28 i = nI (row.getD i 0) := fun i hi => by rw [mup_j _ _ (by omega)]; exact p2 i hi
      have f8 : mup μ2 28 row.length (nI t) 28 row.length = nI t := mup_s _ _ _ _
      have SS3 : Ss μ (mup μ2 28 row.length (nI t)) := SS1.up (by omega)
      generalize mup μ2 28 row.length (nI t) = μ3 at *
      refine mj_aload_n dMod_nextAlignment_129 rfl ?_
      refine mj_get dMod_nextAlignment_130 fg_Mod_98 rfl ?_
      refine mj_aload_n dMod_nextAlignment_133 rfl ?_
      refine mj_get dMod_nextAlignment_134 fg_Mod_144 rfl ?_
      refine mj_iconst (v := nI 1) dMod_nextAlignment_137 (by decide) ?_
      refine mj_iadd dMod_nextAlignment_138 ?_
      refine mj_aload_n dMod_nextAlignment_139 rfl ?_
      refine mj_get dMod_nextAlignment_140 fg_Mod_98 rfl ?_
      refine mj_aload_n dMod_nextAlignment_143 rfl ?_
      refine mj_get dMod_nextAlignment_144 fg_Mod_144 rfl ?_
      refine mj_iaload dMod_nextAlignment_147 (by decide) f1 (show _ < 12 by omega) (by decide) ?_
      rw [f2, p3n.1, f1, show nI row.length + nI 1 = nI (row.length + 1) from nI_add _ _]
      refine mj_aload_n dMod_nextAlignment_148 rfl ?_
      refine mj_get dMod_nextAlignment_149 fg_Mod_7 rfl ?_
      refine mj_iload_n dMod_nextAlignment_152 rfl ?_
      refine mj_iaload dMod_nextAlignment_153 (by decide) rfl (show _ < 10 by omega) (by decide) ?_
      rw [f4, b3.1]
      have t219 : ∀ μ6 : xMu, Ss μ μ6 → Sk μ6 V (row ++ [t]) 0 → Mj (l, G, d + 1, m, fun o μ' => Ss μ μ' ∧ Nx V w u gv ρ o μ') mMod_nextAlignment 219 [some (.ref m), some (.int (bI gv)), some (.int (nI t))] [] μ6 := by
        intro μ6 SS6 SK6
        refine mj_goto (tgt := 0) dMod_nextAlignment_219 (by decide) ?_
        exact ih (row ++ [t]) 0 μ6 _ (by omega) SS6 SK6 VD2 (by rw [← hr]; exact c1.1.symm)
      have t197 : ∀ (μ4 : xMu) (x : Nat), Ss μ μ4 → μ4 0 36 = nI row.length → (∀ i, i < row.length → μ4 28 i = nI (row.getD i 0)) → μ4 28 row.length = nI t → (∀ i, i ≤ row.length + 1 → μ4 30 i = nI (lowc V ((row ++ [t]).take i))) → (∀ i, i ≤ row.length → μ4 31 i = nI (upc V ((row ++ [t]).take i))) → (∀ i, μ4 29 i = μ2 29 i) → upc V row + x = upc V (row ++ [t]) → Mj (l, G, d + 1, m, fun o μ' => Ss μ μ' ∧ Nx V w u gv ρ o μ') mMod_nextAlignment 197 [some (.ref m), some (.int (bI gv)), some (.int (nI t))] [.int (nI x), .int (nI (upc V row)), .int (nI (row.length + 1)), .ref (m + 31)] μ4 := by
        intro μ4 x SS4 g1 g2 g2b g3 g4 g5 hx
        refine mj_iadd dMod_nextAlignment_197 ?_
        rw [nI_add, hx]
        refine mj_iastore dMod_nextAlignment_198 (by decide) rfl (show _ < 12 by omega) (by decide) ?_
        refine mj_aload_n dMod_nextAlignment_199 rfl ?_
        refine mj_dup dMod_nextAlignment_200 rfl ?_
        refine mj_get dMod_nextAlignment_201 fg_Mod_144 rfl ?_
        refine mj_iconst (v := nI 1) dMod_nextAlignment_204 (by decide) ?_
        refine mj_iadd dMod_nextAlignment_205 ?_
        rw [show mup μ4 31 (row.length + 1) (nI (upc V (row ++ [t]))) 0 36 = nI row.length from by rw [mup_k _ _ (by decide)]; exact g1, show nI row.length + nI 1 = nI (row.length + 1) from nI_add _ _]
        refine mj_put dMod_nextAlignment_206 (fp_Mod_144 _) (by decide) ?_
        refine mj_aload_n dMod_nextAlignment_209 rfl ?_
        refine mj_get dMod_nextAlignment_210 fg_Mod_95 rfl ?_
        refine mj_aload_n dMod_nextAlignment_213 rfl ?_
        refine mj_get dMod_nextAlignment_214 fg_Mod_144 rfl ?_
        refine mj_iconst (v := nI 0) dMod_nextAlignment_217 (by decide) ?_
        refine mj_iastore dMod_nextAlignment_218 (by decide) (mup_s _ _ _ _) (show _ < 12 by omega) (by decide) ?_
        refine t219 _ (((SS4.up (by omega)).up (by omega)).up (by omega)) ⟨⟨?_, fun i hi => ?_, fun i hi => ⟨?_, ?_⟩, fun p hp => ?_⟩, fun i hi => ?_, ?_, Nat.zero_le _⟩
        · rw [mup_k _ _ (by decide), mup_s, List.length_append]; rfl
        · rw [mup_k _ _ (by decide), mup_k _ _ (by decide), mup_k _ _ (by decide)]
          by_cases e : i = row.length
          · rw [e, getD_snoc]; exact g2b
          · rw [getD_snoc' e]; exact g2 i (by rw [List.length_append, List.length_singleton] at hi; omega)
        · rw [mup_k _ _ (by decide), mup_k _ _ (by decide), mup_k _ _ (by decide)]
          exact g3 i (by rw [List.length_append, List.length_singleton] at hi; omega)
        · rw [mup_k _ _ (by decide), mup_k _ _ (by decide)]
          rw [List.length_append, List.length_singleton] at hi
          by_cases e : i = row.length + 1
          · rw [e, mup_s, List.take_of_length_le (by simp)]
          · rw [mup_j _ _ e]; exact g4 i (by omega)
        · rcases List.mem_append.mp hp with z | z
          · exact p4 p z
          · rw [List.mem_singleton.mp z]; exact ht
        · rw [List.length_append, List.length_singleton] at hi
          rw [mup_j _ _ (by omega), mup_k _ _ (by decide), mup_k _ _ (by decide), g5]
          by_cases e : i = row.length
          · rw [e, getD_snoc]; exact p6
          · rw [getD_snoc' e]; exact p5 i (by omega)
        · rw [List.length_append]; exact mup_s _ _ _ _
      have t162 : ∀ x : Nat, lowc V row + x = lowc V (row ++ [t]) → Mj (l, G, d + 1, m, fun o μ' => Ss μ μ' ∧ Nx V w u gv ρ o μ') mMod_nextAlignment 162 [some (.ref m), some (.int (bI gv)), some (.int (nI t))] [.int (nI x), .int (nI (lowc V row)), .int (nI (row.length + 1)), .ref (m + 30)] μ3 := by
        intro x hx
        refine mj_iadd dMod_nextAlignment_162 ?_
        rw [nI_add, hx]
        refine mj_iastore dMod_nextAlignment_163 (by decide) rfl (show _ < 12 by omega) (by decide) ?_
        have h1 : mup μ3 30 (row.length + 1) (nI (lowc V (row ++ [t]))) 0 36 = nI row.length := by rw [mup_k _ _ (by decide)]; exact f1
        have h2 : ∀ i, mup μ3 30 (row.length + 1) (nI (lowc V (row ++ [t]))) 31 i = μ2 31 i := fun i => by rw [mup_k _ _ (by decide)]; exact f3 i
        have h3 : ∀ i, mup μ3 30 (row.length + 1) (nI (lowc V (row ++ [t]))) 2 i = μ2 2 i := fun i => by rw [mup_k _ _ (by decide)]; exact f5 i
        have T := t197 (mup μ3 30 (row.length + 1) (nI (lowc V (row ++ [t]))))
        have SS4 : Ss μ (mup μ3 30 (row.length + 1) (nI (lowc V (row ++ [t])))) := SS3.up (by omega)
        have T2 := fun x => T x SS4 h1 (fun i hi => by rw [mup_k _ _ (by decide)]; exact f7 i hi) (by rw [mup_k _ _ (by decide)]; exact f8) (fun i hi => by
          by_cases e : i = row.length + 1
          · rw [e, mup_s, List.take_of_length_le (by simp)]
          · rw [mup_j _ _ e, f2, List.take_append_of_le_length (by omega)]; exact (p3 i (by omega)).1) (fun i hi => by rw [h2, List.take_append_of_le_length hi]; exact (p3 i hi).2) (fun i => by rw [mup_k _ _ (by decide)]; exact f6 i)
        generalize mup μ3 30 (row.length + 1) (nI (lowc V (row ++ [t]))) = μ4 at *
        refine mj_aload_n dMod_nextAlignment_164 rfl ?_
        refine mj_get dMod_nextAlignment_165 fg_Mod_101 rfl ?_
        refine mj_aload_n dMod_nextAlignment_168 rfl ?_
        refine mj_get dMod_nextAlignment_169 fg_Mod_144 rfl ?_
        refine mj_iconst (v := nI 1) dMod_nextAlignment_172 (by decide) ?_
        refine mj_iadd dMod_nextAlignment_173 ?_
        refine mj_aload_n dMod_nextAlignment_174 rfl ?_
        refine mj_get dMod_nextAlignment_175 fg_Mod_101 rfl ?_
        refine mj_aload_n dMod_nextAlignment_178 rfl ?_
        refine mj_get dMod_nextAlignment_179 fg_Mod_144 rfl ?_
        refine mj_iaload dMod_nextAlignment_182 (by decide) h1 (show _ < 12 by omega) (by decide) ?_
        rw [h2, p3n.2, h1, show nI row.length + nI 1 = nI (row.length + 1) from nI_add _ _]
        refine mj_aload_n dMod_nextAlignment_183 rfl ?_
        refine mj_get dMod_nextAlignment_184 fg_Mod_13 rfl ?_
        refine mj_iload_n dMod_nextAlignment_187 rfl ?_
        refine mj_iaload dMod_nextAlignment_188 (by decide) rfl (show _ < 10 by omega) (by decide) ?_
        rw [h3, b3.2]
        refine mj_if_le (tgt := 196) dMod_nextAlignment_189 (by decide) (fun hc6 => ?_) (fun hc6 => ?_)
        · have q : upp (wv V) t = 0 := by
            have z := (nI_leI (b := 0) (a := upp (wv V) t) (by have : upp (wv V) t < 8 := bb.2; omega) (by omega)).mp hc6
            omega
          refine mj_iconst (v := nI 0) dMod_nextAlignment_196 (by decide) ?_
          exact T2 0 (by rw [upc_snoc, if_pos q]; rfl)
        · have q : ¬ upp (wv V) t = 0 := fun z => hc6 (by rw [show (V.1.getD t (0, 0)).2 = 0 from z]; exact Int32.le_refl _)
          refine mj_iconst (v := nI 1) dMod_nextAlignment_192 (by decide) ?_
          refine mj_goto (tgt := 197) dMod_nextAlignment_193 (by decide) ?_
          exact T2 1 (by rw [upc_snoc, if_neg q])
      refine mj_if_le (tgt := 161) dMod_nextAlignment_154 (by decide) (fun hc5 => ?_) (fun hc5 => ?_)
      · have q : lowp (wv V) t = 0 := by
          have z := (nI_leI (b := 0) (a := lowp (wv V) t) (by have : lowp (wv V) t < 8 := bb.1; omega) (by omega)).mp hc5
          omega
        refine mj_iconst (v := nI 0) dMod_nextAlignment_161 (by decide) ?_
        exact t162 0 (by rw [lowc_snoc, if_pos q]; rfl)
      · have q : ¬ lowp (wv V) t = 0 := fun z => hc5 (by rw [show (V.1.getD t (0, 0)).1 = 0 from z]; exact Int32.le_refl _)
        refine mj_iconst (v := nI 1) dMod_nextAlignment_157 (by decide) ?_
        refine mj_goto (tgt := 162) dMod_nextAlignment_158 (by decide) ?_
        exact t162 1 (by rw [lowc_snoc, if_neg q])
  refine mc_of (L := [_, _, _]) (by decide) (Nat.le_of_ble_eq_true rfl) rfl ?_
  exact loop _ row t μ _ (Nat.le_refl _) Ss.rf HS HD hρ
end MNEXT2
