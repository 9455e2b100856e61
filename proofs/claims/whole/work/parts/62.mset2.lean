/-! The reference: rule, context, element. -/
section MSET2
variable {l : Launch} {G : xG} {d m : Nat} {μ : xMu} {A : xMA}
theorem c_Mod_rule {k p : Int32} (H : Rm μ A) : Mc l G mMod_rule d m [.ref m, .int k, .int p] μ (Ms thr1 (mdRule A k p)) := by
  have H0 := H
  obtain ⟨HV, HE, HL, HP, HZ⟩ := H
  obtain ⟨v1, v2, v3, v4, v5, v6, v7, v8, v9, v10, v11, v12, v13, v14⟩ := id HV
  have rej : ∀ (c : Nat), (c = 1 ∨ c = 2) → nI c = thr1 (mdRule A k p).1 → (mdRule A k p).2 = A → (∀ v, (mdRule A k p).1 ≠ .inl v) → Mj (l, G, d, m, Ms thr1 (mdRule A k p)) mMod_rule 39 [some (.ref m), some (.int k), some (.int p)] [.int (nI c), .ref m] μ := by
    intro c hc12 h1 h2 h3
    refine mj_put dMod_rule_39 (fp_Mod_107 _) (by decide) ?_
    refine mj_aload_n dMod_rule_42 rfl ?_
    refine mj_get dMod_rule_43 fg_Mod_107 rfl ?_
    rw [mup_s]
    refine mj_if_eq (tgt := 51) dMod_rule_46 (by decide) (fun hcr => by rcases hc12 with rfl | rfl <;> exact absurd hcr (by decide)) (fun hcr => ?_)
    refine mj_iconst (v := nI 0) dMod_rule_49 (by decide) ?_
    exact mj_iret dMod_rule_50 rfl ⟨by rw [mup_s]; exact h1, by rw [h2]; exact H0.th, ⟨_, rfl⟩, fun v hv => absurd hv (h3 v)⟩
  have t22 : ¬ (0 ≤ k.toInt ∧ k.toInt < 4 ∧ 0 ≤ p.toInt ∧ p.toInt < A.1.1.length) → Mj (l, G, d, m, Ms thr1 (mdRule A k p)) mMod_rule 22 [some (.ref m), some (.int k), some (.int p)] [.ref m] μ := by
    intro hn
    have e : mdRule A k p = (.inr eA, A) := by unfold mdRule; rw [if_pos hn]
    refine mj_iconst (v := nI 1) dMod_rule_22 (by decide) ?_
    refine mj_goto (tgt := 39) dMod_rule_23 (by decide) ?_
    exact rej 1 (Or.inl rfl) (by rw [e]; rfl) (by rw [e]) (fun v z => by rw [e] at z; cases z)
  refine mc_of (L := [_, _, _]) (by decide) (Nat.le_of_ble_eq_true rfl) rfl ?_
  refine mj_aload_n dMod_rule_0 rfl ?_
  refine mj_iload_n dMod_rule_1 rfl ?_
  refine mj_if_lt (tgt := 22) dMod_rule_2 (by decide) (fun hc => ?_) (fun hc => ?_)
  · rw [lt0] at hc; exact t22 (by omega)
  rw [lt0] at hc
  refine mj_iload_n dMod_rule_5 rfl ?_
  refine mj_iconst (v := nI 3) dMod_rule_6 (by decide) ?_
  refine mj_icmp_gt (tgt := 22) dMod_rule_7 (by decide) (fun hc2 => ?_) (fun hc2 => ?_)
  · rw [Nlt (by omega)] at hc2; exact t22 (by omega)
  rw [Nlt (by omega)] at hc2
  refine mj_iload_n dMod_rule_10 rfl ?_
  refine mj_if_lt (tgt := 22) dMod_rule_11 (by decide) (fun hc3 => ?_) (fun hc3 => ?_)
  · rw [lt0] at hc3; exact t22 (by omega)
  rw [lt0] at hc3
  refine mj_iload_n dMod_rule_14 rfl ?_
  refine mj_aload_n dMod_rule_15 rfl ?_
  refine mj_get dMod_rule_16 fg_Mod_115 rfl ?_
  rw [v1]
  refine mj_icmp_lt (tgt := 26) dMod_rule_19 (by decide) (fun hc4 => ?_) (fun hc4 => ?_)
  rotate_left
  · rw [ltN (by omega)] at hc4; exact t22 (by omega)
  rw [ltN (by omega)] at hc4
  have ek := iv_of (a := k) (by omega)
  have ep := iv_of (a := p) (by omega)
  have u1 : mdRule A k p = (if A.1.2.1.length < 4 then (rI (nI A.1.2.1.length), ((A.1.1, A.1.2.1 ++ [(k.toInt.toNat, p.toInt.toNat)], A.1.2.2), A.2.1, A.2.2.1, A.2.2.2.1, A.2.2.2.2.1, [])) else (.inr eS, A)) := by unfold mdRule; rw [if_neg (fun z => z ⟨by omega, by omega, by omega, hc4⟩)]
  refine mj_aload_n dMod_rule_26 rfl ?_
  refine mj_get dMod_rule_27 fg_Mod_121 rfl ?_
  refine mj_iconst (v := nI 4) dMod_rule_30 (by decide) ?_
  rw [v2]
  refine mj_icmp_ne (tgt := 38) dMod_rule_31 (by decide) (fun hc5 => ?_) (fun hc5 => ?_)
  rotate_left
  · have h4 : A.1.2.1.length = 4 := (nI_eq (by omega) (by omega)).mp hc5
    rw [if_neg (by omega)] at u1
    refine mj_iconst (v := nI 2) dMod_rule_34 (by decide) ?_
    refine mj_goto (tgt := 39) dMod_rule_35 (by decide) ?_
    exact rej 2 (Or.inr rfl) (by rw [u1]; rfl) (by rw [u1]) (fun v z => by rw [u1] at z; cases z)
  have h4 : A.1.2.1.length < 4 := by
    have : A.1.2.1.length ≠ 4 := fun z => hc5 (by rw [z])
    omega
  rw [if_pos h4] at u1
  refine mj_iconst (v := nI 0) dMod_rule_38 (by decide) ?_
  refine mj_put dMod_rule_39 (fp_Mod_107 _) (by decide) ?_
  refine mj_aload_n dMod_rule_42 rfl ?_
  refine mj_get dMod_rule_43 fg_Mod_107 rfl ?_
  rw [mup_s]
  refine mj_if_eq (tgt := 51) dMod_rule_46 (by decide) (fun hca => ?_) (fun hca => absurd rfl hca)
  have g1 : mup μ 0 0 (nI 0) 0 4 = nI A.1.2.1.length := by rw [mup_j _ _ (by decide)]; exact v2
  refine mj_aload_n dMod_rule_51 rfl ?_
  refine mj_get dMod_rule_52 fg_Mod_16 rfl ?_
  refine mj_aload_n dMod_rule_55 rfl ?_
  refine mj_get dMod_rule_56 fg_Mod_121 rfl ?_
  refine mj_iload_n dMod_rule_59 rfl ?_
  refine mj_iastore dMod_rule_60 (by decide) g1 (show _ < 4 by omega) (by decide) ?_
  refine mj_aload_n dMod_rule_61 rfl ?_
  refine mj_get dMod_rule_62 fg_Mod_19 rfl ?_
  refine mj_aload_n dMod_rule_65 rfl ?_
  refine mj_get dMod_rule_66 fg_Mod_121 rfl ?_
  refine mj_iload_n dMod_rule_69 rfl ?_
  refine mj_iastore dMod_rule_70 (by decide) (by rw [mup_k _ _ (by decide)]; exact g1) (show _ < 4 by omega) (by decide) ?_
  refine mj_aload_n dMod_rule_71 rfl ?_
  refine mj_dup dMod_rule_72 rfl ?_
  refine mj_get dMod_rule_73 fg_Mod_121 rfl ?_
  refine mj_iconst (v := nI 1) dMod_rule_76 (by decide) ?_
  rw [show mup (mup (mup μ 0 0 (nI 0)) 3 A.1.2.1.length k) 4 A.1.2.1.length p 0 4 = nI A.1.2.1.length from by rw [mup_k _ _ (by decide), mup_k _ _ (by decide)]; exact g1]
  refine mj_iadd dMod_rule_77 ?_
  rw [show nI A.1.2.1.length + nI 1 = nI (A.1.2.1.length + 1) from nI_add _ _]
  refine mj_put dMod_rule_78 (fp_Mod_121 _) (by decide) ?_
  refine mj_aload_n dMod_rule_81 rfl ?_
  refine mj_iconst (v := nI 0) dMod_rule_82 (by decide) ?_
  refine mj_put dMod_rule_83 (fp_Mod_118 _) (by decide) ?_
  refine mj_aload_n dMod_rule_86 rfl ?_
  refine mj_get dMod_rule_87 fg_Mod_121 rfl ?_
  refine mj_iconst (v := nI 1) dMod_rule_90 (by decide) ?_
  rw [show mup (mup (mup (mup (mup μ 0 0 (nI 0)) 3 A.1.2.1.length k) 4 A.1.2.1.length p) 0 4 (nI (A.1.2.1.length + 1))) 0 19 (nI 0) 0 4 = nI (A.1.2.1.length + 1) from by rw [mup_j _ _ (by decide), mup_s]]
  refine mj_isub dMod_rule_91 ?_
  rw [show nI (A.1.2.1.length + 1) - nI 1 = nI A.1.2.1.length from pk_sub (a := A.1.2.1.length + 1) (b := 1) (by omega)]
  have hun : ∀ x y : Nat, ¬ ((x = 0 ∧ (y = 0 ∨ y = 4 ∨ y = 19)) ∨ x = 3 ∨ x = 4) → mup (mup (mup (mup (mup μ 0 0 (nI 0)) 3 A.1.2.1.length k) 4 A.1.2.1.length p) 0 4 (nI (A.1.2.1.length + 1))) 0 19 (nI 0) x y = μ x y := fun x y h => by
    rw [mup_ne _ _ (by omega), mup_ne _ _ (by omega), mup_ne _ _ (by omega), mup_ne _ _ (by omega), mup_ne _ _ (by omega)]
  refine mj_iret dMod_rule_92 rfl ⟨?_, ?_, ⟨_, rfl⟩, fun v hv => by rw [u1] at hv; exact hv⟩
  · rw [mup_j _ _ (by decide), mup_j _ _ (by decide), mup_k _ _ (by decide), mup_k _ _ (by decide), mup_s, u1]; rfl
  · rw [u1]
    refine ⟨⟨(hun _ _ (by omega)).trans v1, ?_, fun j hj => ⟨(hun _ _ (by omega)).trans (v3 j hj).1, (hun _ _ (by omega)).trans (v3 j hj).2⟩, fun j hj => ?_, fun j hj => (hun _ _ (by omega)).trans (v5 j hj), fun j hj => ⟨(hun _ _ (by omega)).trans (v6 j hj).1, (hun _ _ (by omega)).trans (v6 j hj).2⟩, fun j hj => ⟨(hun _ _ (by omega)).trans (v7 j hj).1, (hun _ _ (by omega)).trans (v7 j hj).2⟩, v8, v9, by simp; omega, fun z hz9 => ?_, v12, v13, v14⟩, HE.eq (fun x y h => hun x y (by omega)), HL.eq (fun x y h => hun x y (by omega)), HP.eq (fun x y h => hun x y (by omega)), Rz.nil (mup_s _ _ _ _)⟩
    · rw [mup_j _ _ (by decide), mup_s, List.length_append]; rfl
    · dsimp only
      by_cases e : j = A.1.2.1.length
      · subst e
        rw [getD_snoc]
        exact ⟨by rw [mup_k _ _ (by decide), mup_k _ _ (by decide), mup_k _ _ (by decide), mup_s]; exact ek.1, by rw [mup_k _ _ (by decide), mup_k _ _ (by decide), mup_s]; exact ep.1⟩
      · have hj' : j < A.1.2.1.length := by rw [List.length_append, List.length_singleton] at hj; omega
        rw [getD_snoc' e]
        exact ⟨by rw [mup_k _ _ (by decide), mup_k _ _ (by decide), mup_k _ _ (by decide), mup_j _ _ e, mup_k _ _ (by decide)]; exact (v4 j hj').1, by rw [mup_k _ _ (by decide), mup_k _ _ (by decide), mup_j _ _ e, mup_k _ _ (by decide), mup_k _ _ (by decide)]; exact (v4 j hj').2⟩
    · rcases List.mem_append.mp hz9 with z1 | z1
      · exact v11 z z1
      · rw [List.mem_singleton.mp z1]; exact ⟨show k.toInt.toNat < 4 by omega, show p.toInt.toNat < A.1.1.length by omega⟩
theorem c_Mod_context {r : Int32} {t1 t2 : Bool} (H : Rm μ A) : Mc l G mMod_context (d + 1) m [.ref m, .int r, .int (bI t1), .int (bI t2)] μ (Ms thr1 (mdCtx A r t1 t2)) := by
  have H0 := H
  obtain ⟨HV, HE, HL, HP, HZ⟩ := H
  obtain ⟨v1, v2, v3, v4, v5, v6, v7, v8, v9, v10, v11, v12, v13, v14⟩ := id HV
  have rej : ∀ (c : Nat), (c = 1 ∨ c = 2) → nI c = thr1 (mdCtx A r t1 t2).1 → (mdCtx A r t1 t2).2 = A → (∀ v, (mdCtx A r t1 t2).1 ≠ .inl v) → Mj (l, G, d + 1, m, Ms thr1 (mdCtx A r t1 t2)) mMod_context 28 [some (.ref m), some (.int r), some (.int (bI t1)), some (.int (bI t2)), none] [.int (nI c), .ref m] μ := by
    intro c hc12 h1 h2 h3
    refine mj_put dMod_context_28 (fp_Mod_107 _) (by decide) ?_
    refine mj_aload_n dMod_context_31 rfl ?_
    refine mj_get dMod_context_32 fg_Mod_107 rfl ?_
    rw [mup_s]
    refine mj_if_eq (tgt := 40) dMod_context_35 (by decide) (fun hcr => by rcases hc12 with rfl | rfl <;> exact absurd hcr (by decide)) (fun hcr => ?_)
    refine mj_iconst (v := nI 0) dMod_context_38 (by decide) ?_
    exact mj_iret dMod_context_39 rfl ⟨by rw [mup_s]; exact h1, by rw [h2]; exact H0.th, ⟨_, rfl⟩, fun v hv => absurd hv (h3 v)⟩
  refine mc_of (L := [_, _, _, _, _]) (by decide) (Nat.le_of_ble_eq_true rfl) rfl ?_
  refine mj_aload_n dMod_context_0 rfl ?_
  refine mj_aload_n dMod_context_1 rfl ?_
  refine mj_iload_n dMod_context_2 rfl ?_
  refine mj_p1 dMod_context_3 ip_Mod_124 cd_Mod_noRule ar_Mod_noRule (c_Mod_noRule (d := d) (a := r) HV) (by dsimp only; omega) (Nat.le_of_ble_eq_true rfl) (fun E m9 q9 => by simp at q9) (fun v9 μ9 hq => ?_)
  obtain ⟨e, e1⟩ := hq
  cases e
  rw [e1]
  refine mj_if_eq (tgt := 13) dMod_context_6 (by decide) (fun hc => ?_) (fun hc => ?_)
  rotate_left
  · have q := of_decide_eq_true (bI_1 hc)
    have e : mdCtx A r t1 t2 = (.inr eA, A) := by unfold mdCtx; rw [if_pos (by omega)]
    refine mj_iconst (v := nI 1) dMod_context_9 (by decide) ?_
    refine mj_goto (tgt := 28) dMod_context_10 (by decide) ?_
    exact rej 1 (Or.inl rfl) (by rw [e]; rfl) (by rw [e]) (fun v z => by rw [e] at z; cases z)
  have q := of_decide_eq_false (bI_0.mp hc)
  have hr : 0 ≤ r.toInt ∧ r.toInt < A.1.2.1.length := by omega
  have er := iv_of hr.1
  have hr4 : r.toInt.toNat < 4 := by omega
  have u1 : mdCtx A r t1 t2 = (if A.1.2.2.1 r.toInt.toNat < 2 then (rI (nI (A.1.2.2.1 r.toInt.toNat + 1)), ((A.1.1, A.1.2.1, va_up A.1.2.2.1 r.toInt.toNat (A.1.2.2.1 r.toInt.toNat + 1), va_up (va_up A.1.2.2.2.1 (2 * (2 * r.toInt.toNat + A.1.2.2.1 r.toInt.toNat)) t1) (2 * (2 * r.toInt.toNat + A.1.2.2.1 r.toInt.toNat) + 1) t2, A.1.2.2.2.2), A.2.1, A.2.2.1, A.2.2.2.1, A.2.2.2.2.1, [])) else (.inr eS, A)) := by unfold mdCtx; rw [if_neg (fun z => z hr)]
  have hcx := v12 r.toInt.toNat
  have v5r := v5 _ hr4
  generalize r.toInt.toNat = i at *
  refine mj_aload_n dMod_context_13 rfl ?_
  refine mj_get dMod_context_14 fg_Mod_22 rfl ?_
  refine mj_iload_n dMod_context_17 rfl ?_
  refine mj_iaload dMod_context_18 (by decide) er.1 (show _ < 4 by omega) (by decide) ?_
  refine mj_iconst (v := nI 2) dMod_context_19 (by decide) ?_
  rw [v5r]
  refine mj_icmp_ne (tgt := 27) dMod_context_20 (by decide) (fun hc2 => ?_) (fun hc2 => ?_)
  rotate_left
  · have h4 : A.1.2.2.1 i = 2 := (nI_eq (by omega) (by omega)).mp hc2
    rw [if_neg (by omega)] at u1
    refine mj_iconst (v := nI 2) dMod_context_23 (by decide) ?_
    refine mj_goto (tgt := 28) dMod_context_24 (by decide) ?_
    exact rej 2 (Or.inr rfl) (by rw [u1]; rfl) (by rw [u1]) (fun v z => by rw [u1] at z; cases z)
  have h4 : A.1.2.2.1 i < 2 := by
    have : A.1.2.2.1 i ≠ 2 := fun z => hc2 (by rw [z])
    omega
  rw [if_pos h4] at u1
  refine mj_iconst (v := nI 0) dMod_context_27 (by decide) ?_
  refine mj_put dMod_context_28 (fp_Mod_107 _) (by decide) ?_
  refine mj_aload_n dMod_context_31 rfl ?_
  refine mj_get dMod_context_32 fg_Mod_107 rfl ?_
  rw [mup_s]
  refine mj_if_eq (tgt := 40) dMod_context_35 (by decide) (fun hca => ?_) (fun hca => absurd rfl hca)
  have g1 : mup μ 0 0 (nI 0) 5 i = nI (A.1.2.2.1 i) := by rw [mup_k _ _ (by decide)]; exact v5r
  refine mj_iconst (v := nI 2) dMod_context_40 (by decide) ?_
  refine mj_iload_n dMod_context_41 rfl ?_
  refine mj_imul dMod_context_42 ?_
  refine mj_aload_n dMod_context_43 rfl ?_
  refine mj_get dMod_context_44 fg_Mod_22 rfl ?_
  refine mj_iload_n dMod_context_47 rfl ?_
  refine mj_iaload dMod_context_48 (by decide) er.1 (show _ < 4 by omega) (by decide) ?_
  rw [g1]
  refine mj_iadd dMod_context_49 ?_
  rw [show (nI 2 * r : Int32) = nI (2 * i) from by rw [er.1]; exact pk_mul _ _, nI_add]
  generalize hcc : 2 * i + A.1.2.2.1 i = c at *
  refine mj_istore (L' := [_, _, _, _, _]) dMod_context_50 (by decide) rfl ?_
  refine mj_aload_n dMod_context_52 rfl ?_
  refine mj_get dMod_context_53 fg_Mod_25 rfl ?_
  refine mj_iconst (v := nI 2) dMod_context_56 (by decide) ?_
  refine mj_iload dMod_context_57 rfl ?_
  refine mj_imul dMod_context_59 ?_
  refine mj_iload_n dMod_context_60 rfl ?_
  rw [show nI 2 * nI c = nI (2 * c) from pk_mul _ _]
  refine mj_bastore dMod_context_61 (by decide) rfl (show _ < 16 by omega) (by decide) (bI_01 _) ?_
  refine mj_aload_n dMod_context_62 rfl ?_
  refine mj_get dMod_context_63 fg_Mod_25 rfl ?_
  refine mj_iconst (v := nI 2) dMod_context_66 (by decide) ?_
  refine mj_iload dMod_context_67 rfl ?_
  refine mj_imul dMod_context_69 ?_
  refine mj_iconst (v := nI 1) dMod_context_70 (by decide) ?_
  refine mj_iadd dMod_context_71 ?_
  refine mj_iload_n dMod_context_72 rfl ?_
  rw [show nI 2 * nI c = nI (2 * c) from pk_mul _ _, show nI (2 * c) + nI 1 = nI (2 * c + 1) from nI_add _ _]
  refine mj_bastore dMod_context_73 (by decide) rfl (show _ < 16 by omega) (by decide) (bI_01 _) ?_
  refine mj_aload_n dMod_context_74 rfl ?_
  refine mj_get dMod_context_75 fg_Mod_22 rfl ?_
  refine mj_iload_n dMod_context_78 rfl ?_
  refine mj_dup2 dMod_context_79 rfl rfl ?_
  refine mj_iaload dMod_context_80 (by decide) er.1 (show _ < 4 by omega) (by decide) ?_
  rw [show mup (mup (mup μ 0 0 (nI 0)) 6 (2 * c) (bI t1)) 6 (2 * c + 1) (bI t2) 5 i = nI (A.1.2.2.1 i) from by rw [mup_k _ _ (by decide), mup_k _ _ (by decide)]; exact g1]
  refine mj_iconst (v := nI 1) dMod_context_81 (by decide) ?_
  refine mj_iadd dMod_context_82 ?_
  rw [show nI (A.1.2.2.1 i) + nI 1 = nI (A.1.2.2.1 i + 1) from nI_add _ _]
  refine mj_iastore dMod_context_83 (by decide) er.1 (show _ < 4 by omega) (by decide) ?_
  refine mj_aload_n dMod_context_84 rfl ?_
  refine mj_iconst (v := nI 0) dMod_context_85 (by decide) ?_
  refine mj_put dMod_context_86 (fp_Mod_118 _) (by decide) ?_
  refine mj_aload_n dMod_context_89 rfl ?_
  refine mj_get dMod_context_90 fg_Mod_22 rfl ?_
  refine mj_iload_n dMod_context_93 rfl ?_
  refine mj_iaload dMod_context_94 (by decide) er.1 (show _ < 4 by omega) (by decide) ?_
  rw [show mup (mup (mup (mup (mup μ 0 0 (nI 0)) 6 (2 * c) (bI t1)) 6 (2 * c + 1) (bI t2)) 5 i (nI (A.1.2.2.1 i + 1))) 0 19 (nI 0) 5 i = nI (A.1.2.2.1 i + 1) from by rw [mup_k _ _ (by decide), mup_s]]
  have hun : ∀ x y : Nat, ¬ ((x = 0 ∧ (y = 0 ∨ y = 19)) ∨ x = 5 ∨ x = 6) → mup (mup (mup (mup (mup μ 0 0 (nI 0)) 6 (2 * c) (bI t1)) 6 (2 * c + 1) (bI t2)) 5 i (nI (A.1.2.2.1 i + 1))) 0 19 (nI 0) x y = μ x y := fun x y h => by
    rw [mup_ne _ _ (by omega), mup_ne _ _ (by omega), mup_ne _ _ (by omega), mup_ne _ _ (by omega), mup_ne _ _ (by omega)]
  refine mj_iret dMod_context_95 rfl ⟨?_, ?_, ⟨_, rfl⟩, fun v hv => by rw [u1] at hv; exact hv⟩
  · rw [mup_j _ _ (by decide), mup_k _ _ (by decide), mup_k _ _ (by decide), mup_k _ _ (by decide), mup_s, u1]; rfl
  · rw [u1]
    refine ⟨⟨(hun _ _ (by omega)).trans v1, (hun _ _ (by omega)).trans v2, fun j hj => ⟨(hun _ _ (by omega)).trans (v3 j hj).1, (hun _ _ (by omega)).trans (v3 j hj).2⟩, fun j hj => ⟨(hun _ _ (by omega)).trans (v4 j hj).1, (hun _ _ (by omega)).trans (v4 j hj).2⟩, fun j hj => ?_, fun j hj => ⟨?_, (hun _ _ (by omega)).trans (v6 j hj).2⟩, fun j hj => ⟨(hun _ _ (by omega)).trans (v7 j hj).1, (hun _ _ (by omega)).trans (v7 j hj).2⟩, v8, v9, v10, v11, fun j => ?_, v13, v14⟩, HE.eq (fun x y h => hun x y (by omega)), HL.eq (fun x y h => hun x y (by omega)), HP.eq (fun x y h => hun x y (by omega)), Rz.nil (mup_s _ _ _ _)⟩
    · dsimp only
      rw [mup_k _ _ (by decide)]
      by_cases e : j = i
      · subst e; rw [mup_s, va_up_self]
      · rw [mup_j _ _ e, va_up_ne _ _ e, mup_k _ _ (by decide), mup_k _ _ (by decide), mup_k _ _ (by decide)]; exact v5 j hj
    · dsimp only
      rw [mup_k _ _ (by decide), mup_k _ _ (by decide)]
      by_cases e : j = 2 * c + 1
      · subst e; rw [mup_s, va_up_self]
      · rw [mup_j _ _ e, va_up_ne _ _ e]
        by_cases e2 : j = 2 * c
        · subst e2; rw [mup_s, va_up_self]
        · rw [mup_j _ _ e2, va_up_ne _ _ e2, mup_k _ _ (by decide)]; exact (v6 j hj).1
    · dsimp only
      by_cases e : j = i
      · subst e; rw [va_up_self]; omega
      · rw [va_up_ne _ _ e]; exact v12 j
theorem c_Mod_element {r s : Int32} {bh st : Bool} (H : Rm μ A) : Mc l G mMod_element (d + 1) m [.ref m, .int r, .int (bI bh), .int s, .int (bI st)] μ (Ms thr1 (mdEl A r bh s st)) := by
  have H0 := H
  obtain ⟨HV, HE, HL, HP, HZ⟩ := H
  obtain ⟨v1, v2, v3, v4, v5, v6, v7, v8, v9, v10, v11, v12, v13, v14⟩ := id HV
  have hpw : 2 ^ A.1.1.length ≤ 2 ^ 10 := Nat.pow_le_pow_right (by omega) v8
  have rej : ∀ (c : Nat) x5 x6, (c = 1 ∨ c = 2) → nI c = thr1 (mdEl A r bh s st).1 → (mdEl A r bh s st).2 = A → (∀ v, (mdEl A r bh s st).1 ≠ .inl v) → Mj (l, G, d + 1, m, Ms thr1 (mdEl A r bh s st)) mMod_element 52 [some (.ref m), some (.int r), some (.int (bI bh)), some (.int s), some (.int (bI st)), x5, x6] [.int (nI c), .ref m] μ := by
    intro c x5 x6 hc12 h1 h2 h3
    refine mj_put dMod_element_52 (fp_Mod_107 _) (by decide) ?_
    refine mj_aload_n dMod_element_55 rfl ?_
    refine mj_get dMod_element_56 fg_Mod_107 rfl ?_
    rw [mup_s]
    refine mj_if_eq (tgt := 64) dMod_element_59 (by decide) (fun hcr => by rcases hc12 with rfl | rfl <;> exact absurd hcr (by decide)) (fun hcr => ?_)
    refine mj_iconst (v := nI 0) dMod_element_62 (by decide) ?_
    exact mj_iret dMod_element_63 rfl ⟨by rw [mup_s]; exact h1, by rw [h2]; exact H0.th, ⟨_, rfl⟩, fun v hv => absurd hv (h3 v)⟩
  have t26 : ∀ (bad : Bool), bad = decide (¬ (0 ≤ r.toInt ∧ r.toInt < A.1.2.1.length) ∨ ¬ (0 ≤ s.toInt ∧ s.toInt.toNat < 2 ^ A.1.1.length)) → Mj (l, G, d + 1, m, Ms thr1 (mdEl A r bh s st)) mMod_element 26 [some (.ref m), some (.int r), some (.int (bI bh)), some (.int s), some (.int (bI st)), none, none] [.int (bI bad)] μ := by
    intro bad hbad
    refine mj_istore (L' := [_, _, _, _, _, _, _]) dMod_element_26 (by decide) rfl ?_
    refine mj_aload_n dMod_element_28 rfl ?_
    refine mj_iload dMod_element_29 rfl ?_
    refine mj_if_eq (tgt := 38) dMod_element_31 (by decide) (fun hc => ?_) (fun hc => ?_)
    rotate_left
    · rw [bI_1 hc] at hbad
      have q := of_decide_eq_true hbad.symm
      have e : mdEl A r bh s st = (.inr eA, A) := by
        unfold mdEl
        by_cases q1 : ¬ (0 ≤ r.toInt ∧ r.toInt < A.1.2.1.length)
        · rw [if_pos q1]
        · rw [if_neg q1, if_pos (q.resolve_left q1)]
      refine mj_iconst (v := nI 1) dMod_element_34 (by decide) ?_
      refine mj_goto (tgt := 52) dMod_element_35 (by decide) ?_
      exact rej 1 _ _ (Or.inl rfl) (by rw [e]; rfl) (by rw [e]) (fun v z => by rw [e] at z; cases z)
    rw [bI_0.mp hc] at hbad
    have q := of_decide_eq_false hbad.symm
    have hr : 0 ≤ r.toInt ∧ r.toInt < A.1.2.1.length := by omega
    have hs : 0 ≤ s.toInt ∧ s.toInt.toNat < 2 ^ A.1.1.length := by omega
    have er := iv_of hr.1
    have es := iv_of hs.1
    have hr4 : r.toInt.toNat < 4 := by omega
    have u0 : mdEl A r bh s st = (if A.1.2.2.1 r.toInt.toNat = 0 then (.inr eS, A) else if A.1.2.2.2.2.1 (elp A r.toInt.toNat bh) < 2 then (rI (nI (A.1.2.2.2.2.1 (elp A r.toInt.toNat bh) + 1)), ((A.1.1, A.1.2.1, A.1.2.2.1, A.1.2.2.2.1, va_up A.1.2.2.2.2.1 (elp A r.toInt.toNat bh) (A.1.2.2.2.2.1 (elp A r.toInt.toNat bh) + 1), va_up A.1.2.2.2.2.2.1 (2 * elp A r.toInt.toNat bh + A.1.2.2.2.2.1 (elp A r.toInt.toNat bh)) s.toInt.toNat, va_up A.1.2.2.2.2.2.2 (2 * elp A r.toInt.toNat bh + A.1.2.2.2.2.1 (elp A r.toInt.toNat bh)) st), A.2.1, A.2.2.1, A.2.2.2.1, A.2.2.2.2.1, [])) else (.inr eS, A)) := by unfold mdEl; rw [if_neg (fun z => z hr), if_neg (fun z => z hs)]
    have hcx := v12 r.toInt.toNat
    have v5r := v5 _ hr4
    have hs10 : s.toInt.toNat < 2 ^ 10 := by omega
    have help : elp A r.toInt.toNat bh = 2 * (2 * r.toInt.toNat + A.1.2.2.1 r.toInt.toNat - 1) + (if bh then 1 else 0) := rfl
    generalize r.toInt.toNat = i at *
    generalize s.toInt.toNat = sn at *
    refine mj_aload_n dMod_element_38 rfl ?_
    refine mj_get dMod_element_39 fg_Mod_22 rfl ?_
    refine mj_iload_n dMod_element_42 rfl ?_
    refine mj_iaload dMod_element_43 (by decide) er.1 (show _ < 4 by omega) (by decide) ?_
    rw [v5r]
    refine mj_if_ne (tgt := 51) dMod_element_44 (by decide) (fun hc2 => ?_) (fun hc2 => ?_)
    rotate_left
    · have h4 : A.1.2.2.1 i = 0 := (nI_eq (b := 0) (by omega) (by omega)).mp hc2
      rw [if_pos h4] at u0
      refine mj_iconst (v := nI 2) dMod_element_47 (by decide) ?_
      refine mj_goto (tgt := 52) dMod_element_48 (by decide) ?_
      exact rej 2 _ _ (Or.inr rfl) (by rw [u0]; rfl) (by rw [u0]) (fun v z => by rw [u0] at z; cases z)
    have h4 : ¬ A.1.2.2.1 i = 0 := fun z => hc2 (by rw [z]; rfl)
    rw [if_neg h4] at u0
    refine mj_iconst (v := nI 0) dMod_element_51 (by decide) ?_
    refine mj_put dMod_element_52 (fp_Mod_107 _) (by decide) ?_
    refine mj_aload_n dMod_element_55 rfl ?_
    refine mj_get dMod_element_56 fg_Mod_107 rfl ?_
    rw [mup_s]
    refine mj_if_eq (tgt := 64) dMod_element_59 (by decide) (fun hca => ?_) (fun hca => absurd rfl hca)
    have g1 : mup μ 0 0 (nI 0) 5 i = nI (A.1.2.2.1 i) := by rw [mup_k _ _ (by decide)]; exact v5r
    refine mj_iconst (v := nI 2) dMod_element_64 (by decide) ?_
    refine mj_iconst (v := nI 2) dMod_element_65 (by decide) ?_
    refine mj_iload_n dMod_element_66 rfl ?_
    refine mj_imul dMod_element_67 ?_
    refine mj_aload_n dMod_element_68 rfl ?_
    refine mj_get dMod_element_69 fg_Mod_22 rfl ?_
    refine mj_iload_n dMod_element_72 rfl ?_
    refine mj_iaload dMod_element_73 (by decide) er.1 (show _ < 4 by omega) (by decide) ?_
    rw [g1]
    refine mj_iadd dMod_element_74 ?_
    refine mj_iconst (v := nI 1) dMod_element_75 (by decide) ?_
    refine mj_isub dMod_element_76 ?_
    refine mj_imul dMod_element_77 ?_
    rw [show (nI 2 * r : Int32) = nI (2 * i) from by rw [er.1]; exact pk_mul _ _, nI_add, pk_sub (show 1 ≤ 2 * i + A.1.2.2.1 i by omega), show nI 2 * nI (2 * i + A.1.2.2.1 i - 1) = nI (2 * (2 * i + A.1.2.2.1 i - 1)) from pk_mul _ _]
    have t87 : ∀ x : Nat, x = (if bh then 1 else 0) → Mj (l, G, d + 1, m, Ms thr1 (mdEl A r bh s st)) mMod_element 87 [some (.ref m), some (.int r), some (.int (bI bh)), some (.int s), some (.int (bI st)), some (.int (bI bad)), none] [.int (nI x), .int (nI (2 * (2 * i + A.1.2.2.1 i - 1)))] (mup μ 0 0 (nI 0)) := by
      intro x hx
      have hx1 : x ≤ 1 := by rw [hx]; split <;> omega
      rw [← hx] at help
      refine mj_iadd dMod_element_87 ?_
      rw [nI_add, ← help]
      have hp16 : elp A i bh < 16 := by omega
      have hel := v13 (elp A i bh)
      have v6p := v6 _ hp16
      generalize elp A i bh = p at *
      have g2 : mup μ 0 0 (nI 0) 7 p = nI (A.1.2.2.2.2.1 p) := by rw [mup_k _ _ (by decide)]; exact v6p.2
      refine mj_istore (L' := [_, _, _, _, _, _, _]) dMod_element_88 (by decide) rfl ?_
      refine mj_aload_n dMod_element_90 rfl ?_
      refine mj_aload_n dMod_element_91 rfl ?_
      refine mj_get dMod_element_92 fg_Mod_29 rfl ?_
      refine mj_iload dMod_element_95 rfl ?_
      refine mj_iaload dMod_element_97 (by decide) rfl (show _ < 16 by omega) (by decide) ?_
      refine mj_iconst (v := nI 2) dMod_element_98 (by decide) ?_
      rw [g2]
      refine mj_icmp_ne (tgt := 106) dMod_element_99 (by decide) (fun hc3 => ?_) (fun hc3 => ?_)
      rotate_left
      · have h2 : A.1.2.2.2.2.1 p = 2 := (nI_eq (by omega) (by omega)).mp hc3
        rw [if_neg (by omega)] at u0
        refine mj_iconst (v := nI 2) dMod_element_102 (by decide) ?_
        refine mj_goto (tgt := 107) dMod_element_103 (by decide) ?_
        refine mj_put dMod_element_107 (fp_Mod_107 _) (by decide) ?_
        refine mj_aload_n dMod_element_110 rfl ?_
        refine mj_get dMod_element_111 fg_Mod_107 rfl ?_
        rw [mup_s]
        refine mj_if_eq (tgt := 119) dMod_element_114 (by decide) (fun hcr => absurd hcr (by decide)) (fun hcr => ?_)
        refine mj_iconst (v := nI 0) dMod_element_117 (by decide) ?_
        exact mj_iret dMod_element_118 rfl ⟨by rw [mup_s, u0]; rfl, by rw [u0]; exact H0.th.th, ⟨_, rfl⟩, fun v hv => by rw [u0] at hv; cases hv⟩
      have h2 : A.1.2.2.2.2.1 p < 2 := by
        have : A.1.2.2.2.2.1 p ≠ 2 := fun z => hc3 (by rw [z])
        omega
      rw [if_pos h2] at u0
      refine mj_iconst (v := nI 0) dMod_element_106 (by decide) ?_
      refine mj_put dMod_element_107 (fp_Mod_107 _) (by decide) ?_
      refine mj_aload_n dMod_element_110 rfl ?_
      refine mj_get dMod_element_111 fg_Mod_107 rfl ?_
      rw [mup_s]
      refine mj_if_eq (tgt := 119) dMod_element_114 (by decide) (fun hca => ?_) (fun hca => absurd rfl hca)
      have g3 : mup (mup μ 0 0 (nI 0)) 0 0 (nI 0) 7 p = nI (A.1.2.2.2.2.1 p) := by rw [mup_k _ _ (by decide)]; exact g2
      refine mj_aload_n dMod_element_119 rfl ?_
      refine mj_get dMod_element_120 fg_Mod_32 rfl ?_
      refine mj_iconst (v := nI 2) dMod_element_123 (by decide) ?_
      refine mj_iload dMod_element_124 rfl ?_
      refine mj_imul dMod_element_126 ?_
      refine mj_aload_n dMod_element_127 rfl ?_
      refine mj_get dMod_element_128 fg_Mod_29 rfl ?_
      refine mj_iload dMod_element_131 rfl ?_
      refine mj_iaload dMod_element_133 (by decide) rfl (show _ < 16 by omega) (by decide) ?_
      rw [g3]
      refine mj_iadd dMod_element_134 ?_
      refine mj_iload_n dMod_element_135 rfl ?_
      rw [show nI 2 * nI p = nI (2 * p) from pk_mul _ _, nI_add]
      refine mj_iastore dMod_element_136 (by decide) rfl (show _ < 32 by omega) (by decide) ?_
      refine mj_aload_n dMod_element_137 rfl ?_
      refine mj_get dMod_element_138 fg_Mod_35 rfl ?_
      refine mj_iconst (v := nI 2) dMod_element_141 (by decide) ?_
      refine mj_iload dMod_element_142 rfl ?_
      refine mj_imul dMod_element_144 ?_
      refine mj_aload_n dMod_element_145 rfl ?_
      refine mj_get dMod_element_146 fg_Mod_29 rfl ?_
      refine mj_iload dMod_element_149 rfl ?_
      refine mj_iaload dMod_element_151 (by decide) rfl (show _ < 16 by omega) (by decide) ?_
      rw [show mup (mup (mup μ 0 0 (nI 0)) 0 0 (nI 0)) 8 (2 * p + A.1.2.2.2.2.1 p) s 7 p = nI (A.1.2.2.2.2.1 p) from by rw [mup_k _ _ (by decide)]; exact g3]
      refine mj_iadd dMod_element_152 ?_
      refine mj_iload dMod_element_153 rfl ?_
      rw [show nI 2 * nI p = nI (2 * p) from pk_mul _ _, nI_add]
      refine mj_bastore dMod_element_155 (by decide) rfl (show _ < 32 by omega) (by decide) (bI_01 _) ?_
      refine mj_aload_n dMod_element_156 rfl ?_
      refine mj_get dMod_element_157 fg_Mod_29 rfl ?_
      refine mj_iload dMod_element_160 rfl ?_
      refine mj_dup2 dMod_element_162 rfl rfl ?_
      refine mj_iaload dMod_element_163 (by decide) rfl (show _ < 16 by omega) (by decide) ?_
      rw [show mup (mup (mup (mup μ 0 0 (nI 0)) 0 0 (nI 0)) 8 (2 * p + A.1.2.2.2.2.1 p) s) 9 (2 * p + A.1.2.2.2.2.1 p) (bI st) 7 p = nI (A.1.2.2.2.2.1 p) from by rw [mup_k _ _ (by decide), mup_k _ _ (by decide)]; exact g3]
      refine mj_iconst (v := nI 1) dMod_element_164 (by decide) ?_
      refine mj_iadd dMod_element_165 ?_
      rw [show nI (A.1.2.2.2.2.1 p) + nI 1 = nI (A.1.2.2.2.2.1 p + 1) from nI_add _ _]
      refine mj_iastore dMod_element_166 (by decide) rfl (show _ < 16 by omega) (by decide) ?_
      refine mj_aload_n dMod_element_167 rfl ?_
      refine mj_iconst (v := nI 0) dMod_element_168 (by decide) ?_
      refine mj_put dMod_element_169 (fp_Mod_118 _) (by decide) ?_
      refine mj_aload_n dMod_element_172 rfl ?_
      refine mj_get dMod_element_173 fg_Mod_29 rfl ?_
      refine mj_iload dMod_element_176 rfl ?_
      refine mj_iaload dMod_element_178 (by decide) rfl (show _ < 16 by omega) (by decide) ?_
      rw [show mup (mup (mup (mup (mup (mup μ 0 0 (nI 0)) 0 0 (nI 0)) 8 (2 * p + A.1.2.2.2.2.1 p) s) 9 (2 * p + A.1.2.2.2.2.1 p) (bI st)) 7 p (nI (A.1.2.2.2.2.1 p + 1))) 0 19 (nI 0) 7 p = nI (A.1.2.2.2.2.1 p + 1) from by rw [mup_k _ _ (by decide), mup_s]]
      have hun : ∀ x y : Nat, ¬ ((x = 0 ∧ (y = 0 ∨ y = 19)) ∨ x = 7 ∨ x = 8 ∨ x = 9) → mup (mup (mup (mup (mup (mup μ 0 0 (nI 0)) 0 0 (nI 0)) 8 (2 * p + A.1.2.2.2.2.1 p) s) 9 (2 * p + A.1.2.2.2.2.1 p) (bI st)) 7 p (nI (A.1.2.2.2.2.1 p + 1))) 0 19 (nI 0) x y = μ x y := fun x y h => by
        rw [mup_ne _ _ (by omega), mup_ne _ _ (by omega), mup_ne _ _ (by omega), mup_ne _ _ (by omega), mup_ne _ _ (by omega), mup_ne _ _ (by omega)]
      refine mj_iret dMod_element_179 rfl ⟨?_, ?_, ⟨_, rfl⟩, fun v hv => by rw [u0] at hv; exact hv⟩
      · rw [mup_j _ _ (by decide), mup_k _ _ (by decide), mup_k _ _ (by decide), mup_k _ _ (by decide), mup_s, u0]; rfl
      · rw [u0]
        refine ⟨⟨(hun _ _ (by omega)).trans v1, (hun _ _ (by omega)).trans v2, fun j hj => ⟨(hun _ _ (by omega)).trans (v3 j hj).1, (hun _ _ (by omega)).trans (v3 j hj).2⟩, fun j hj => ⟨(hun _ _ (by omega)).trans (v4 j hj).1, (hun _ _ (by omega)).trans (v4 j hj).2⟩, fun j hj => (hun _ _ (by omega)).trans (v5 j hj), fun j hj => ⟨(hun _ _ (by omega)).trans (v6 j hj).1, ?_⟩, fun j hj => ⟨?_, ?_⟩, v8, v9, v10, v11, v12, fun j => ?_, fun j => ?_⟩, HE.eq (fun x y h => hun x y (by omega)), HL.eq (fun x y h => hun x y (by omega)), HP.eq (fun x y h => hun x y (by omega)), Rz.nil (mup_s _ _ _ _)⟩
        · dsimp only
          rw [mup_k _ _ (by decide)]
          by_cases e : j = p
          · subst e; rw [mup_s, va_up_self]
          · rw [mup_j _ _ e, va_up_ne _ _ e, mup_k _ _ (by decide), mup_k _ _ (by decide), mup_k _ _ (by decide), mup_k _ _ (by decide)]; exact (v6 j hj).2
        · dsimp only
          rw [mup_k _ _ (by decide), mup_k _ _ (by decide), mup_k _ _ (by decide)]
          by_cases e : j = 2 * p + A.1.2.2.2.2.1 p
          · subst e; rw [mup_s, va_up_self]; exact es.1
          · rw [mup_j _ _ e, va_up_ne _ _ e, mup_k _ _ (by decide), mup_k _ _ (by decide)]; exact (v7 j hj).1
        · dsimp only
          rw [mup_k _ _ (by decide), mup_k _ _ (by decide)]
          by_cases e : j = 2 * p + A.1.2.2.2.2.1 p
          · subst e; rw [mup_s, va_up_self]
          · rw [mup_j _ _ e, va_up_ne _ _ e, mup_k _ _ (by decide), mup_k _ _ (by decide), mup_k _ _ (by decide)]; exact (v7 j hj).2
        · dsimp only
          by_cases e : j = p
          · subst e; rw [va_up_self]; omega
          · rw [va_up_ne _ _ e]; exact v13 j
        · dsimp only
          by_cases e : j = 2 * p + A.1.2.2.2.2.1 p
          · subst e; rw [va_up_self]; exact hs10
          · rw [va_up_ne _ _ e]; exact v14 j
    refine mj_iload_n dMod_element_78 rfl ?_
    refine mj_if_eq (tgt := 86) dMod_element_79 (by decide) (fun hc5 => ?_) (fun hc5 => ?_)
    · refine mj_iconst (v := nI 0) dMod_element_86 (by decide) ?_
      exact t87 0 (by rw [bI_0.mp hc5]; rfl)
    · refine mj_iconst (v := nI 1) dMod_element_82 (by decide) ?_
      refine mj_goto (tgt := 87) dMod_element_83 (by decide) ?_
      exact t87 1 (by rw [bI_1 hc5]; rfl)
  have big : ∀ h9 : ¬ (0 ≤ r.toInt ∧ r.toInt < A.1.2.1.length) ∨ ¬ (0 ≤ s.toInt ∧ s.toInt.toNat < 2 ^ A.1.1.length), Mj (l, G, d + 1, m, Ms thr1 (mdEl A r bh s st)) mMod_element 21 [some (.ref m), some (.int r), some (.int (bI bh)), some (.int s), some (.int (bI st)), none, none] [] μ := by
    intro h9
    refine mj_iconst (v := nI 1) dMod_element_21 (by decide) ?_
    refine mj_goto (tgt := 26) dMod_element_22 (by decide) ?_
    exact t26 true (decide_eq_true h9).symm
  refine mc_of (L := [_, _, _, _, _, _, _]) (by decide) (Nat.le_of_ble_eq_true rfl) rfl ?_
  refine mj_aload_n dMod_element_0 rfl ?_
  refine mj_iload_n dMod_element_1 rfl ?_
  refine mj_p1 dMod_element_2 ip_Mod_124 cd_Mod_noRule ar_Mod_noRule (c_Mod_noRule (d := d) (a := r) HV) (by dsimp only; omega) (Nat.le_of_ble_eq_true rfl) (fun E m9 q9 => by simp at q9) (fun v9 μ9 hq => ?_)
  obtain ⟨e, e1⟩ := hq
  cases e
  rw [e1]
  refine mj_if_ne (tgt := 21) dMod_element_5 (by decide) (fun hc => ?_) (fun hc => ?_)
  · have q := of_decide_eq_true (bI_1 hc)
    exact big (by omega)
  have q := of_decide_eq_false (bI_0.mp hc)
  refine mj_iload_n dMod_element_8 rfl ?_
  refine mj_if_lt (tgt := 21) dMod_element_9 (by decide) (fun hc2 => ?_) (fun hc2 => ?_)
  · rw [lt0] at hc2; exact big (by omega)
  rw [lt0] at hc2
  have es := iv_of (a := s) (by omega)
  refine mj_iload_n dMod_element_12 rfl ?_
  refine mj_aload_n dMod_element_13 rfl ?_
  refine mj_get dMod_element_14 fg_Mod_115 rfl ?_
  rw [v1]
  refine mj_ishr dMod_element_17 ?_
  have hsh : s >>> (nI A.1.1.length &&& 31) = nI (s.toInt.toNat >>> A.1.1.length) := by
    rw [es.1]
    have := nb_shr (a := s.toInt.toNat) (k := A.1.1.length) (by omega) es.2
    rw [← es.1]; rw [← es.1] at this; exact this
  rw [hsh]
  have hdv : s.toInt.toNat >>> A.1.1.length = s.toInt.toNat / 2 ^ A.1.1.length := Nat.shiftRight_eq_div_pow _ _
  have hpp : 0 < 2 ^ A.1.1.length := Nat.two_pow_pos _
  have hle : s.toInt.toNat >>> A.1.1.length < 2 ^ 31 := by rw [hdv]; exact Nat.lt_of_le_of_lt (Nat.div_le_self _ _) es.2
  refine mj_if_eq (tgt := 25) dMod_element_18 (by decide) (fun hc3 => ?_) (fun hc3 => ?_)
  · have z := (nI_eq (b := 0) hle (by omega)).mp hc3
    rw [hdv, Nat.div_eq_zero_iff] at z
    refine mj_iconst (v := nI 0) dMod_element_25 (by decide) ?_
    exact t26 false (decide_eq_false (by omega)).symm
  have z : ¬ s.toInt.toNat < 2 ^ A.1.1.length := fun y => hc3 (by rw [hdv, Nat.div_eq_of_lt y]; rfl)
  exact big (by omega)
end MSET2
