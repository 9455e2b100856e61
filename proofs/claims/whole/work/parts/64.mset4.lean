/-! The reference: type, wipe, length, result, sample. -/
section MSET4
variable {l : Launch} {G : xG} {d m : Nat} {μ : xMu} {A : xMA}
theorem c_Mod_type {up : Bool} {z : Int32} (H : Rm μ A) : Mc l G mMod_type (d + 1) m [.ref m, .int (bI up), .int z] μ (Ms thr1 (mdType A up z)) := by
  have H0 := H
  obtain ⟨HV, HE, HL, HP, HZ⟩ := H
  obtain ⟨l1, l2, l3, l4, l5, l6, l7, l8⟩ := id HL
  have t9 : ∀ ln : Nat, ln = (if up then 1 else 0) → Mj (l, G, d + 1, m, Ms thr1 (mdType A up z)) mMod_type 9 [some (.ref m), some (.int (bI up)), some (.int z), none] [.int (nI ln)] μ := by
    intro ln hln
    have rej : ∀ (c : Nat), (c = 1 ∨ c = 2) → nI c = thr1 (mdType A up z).1 → (mdType A up z).2 = A → (∀ v, (mdType A up z).1 ≠ .inl v) → Mj (l, G, d + 1, m, Ms thr1 (mdType A up z)) mMod_type 41 [some (.ref m), some (.int (bI up)), some (.int z), some (.int (nI ln))] [.int (nI c), .ref m] μ := by
      intro c hc12 h1 h2 h3
      refine mj_put dMod_type_41 (fp_Mod_107 _) (by decide) ?_
      refine mj_aload_n dMod_type_44 rfl ?_
      refine mj_get dMod_type_45 fg_Mod_107 rfl ?_
      rw [mup_s]
      refine mj_if_eq (tgt := 53) dMod_type_48 (by decide) (fun hcr => by rcases hc12 with rfl | rfl <;> exact absurd hcr (by decide)) (fun hcr => ?_)
      refine mj_iconst (v := nI 0) dMod_type_51 (by decide) ?_
      exact mj_iret dMod_type_52 rfl ⟨by rw [mup_s]; exact h1, by rw [h2]; exact H0.th, ⟨_, rfl⟩, fun v hv => absurd hv (h3 v)⟩
    refine mj_istore_n (L' := [_, _, _, _]) dMod_type_9 (by decide) rfl ?_
    refine mj_aload_n dMod_type_10 rfl ?_
    refine mj_aload_n dMod_type_11 rfl ?_
    refine mj_iload_n dMod_type_12 rfl ?_
    refine mj_iconst (v := nI 1) dMod_type_13 (by decide) ?_
    refine mj_p2 dMod_type_14 ip_Mod_111 cd_Mod_noSign ar_Mod_noSign (c_Mod_noSign (d := d) (a := z) (b := nI 1)) (by dsimp only; omega) (Nat.le_of_ble_eq_true rfl) (fun E m9 q9 => by simp at q9) (fun v9 μ9 hq => ?_)
    obtain ⟨e0, e1'⟩ := hq
    cases e0
    rw [e1', sg1_no]
    refine mj_if_eq (tgt := 24) dMod_type_17 (by decide) (fun hc3 => ?_) (fun hc3 => ?_)
    rotate_left
    · have q : sg1 z = false := by have := bI_1 hc3; simpa using this
      have e : mdType A up z = (.inr eA, A) := by unfold mdType; rw [if_pos (by rw [q]; decide)]
      refine mj_iconst (v := nI 1) dMod_type_20 (by decide) ?_
      refine mj_goto (tgt := 41) dMod_type_21 (by decide) ?_
      exact rej 1 (Or.inl rfl) (by rw [e]; rfl) (by rw [e]) (fun v z => by rw [e] at z; cases z)
    have hz : sg1 z = true := by have := bI_0.mp hc3; simpa using this
    have hz' : 0 < z.toInt ∧ z.toInt ≤ 7 := by simpa [sg1] using hz
    have ez := iv_of (a := z) (by omega)
    have hz8 : z.toInt.toNat < 8 := by omega
    cases up with
    | true =>
      have hl9 : ln = 1 := hln
      subst hl9
      have u1 : mdType A true z = (if A.2.2.2.1.length < 5 then (rI (nI (A.2.2.2.1.length + 1)), (A.1, A.2.1, A.2.2.1, A.2.2.2.1 ++ [z.toInt.toNat], A.2.2.2.2)) else (.inr eS, A)) := by unfold mdType; rw [if_neg (fun y => y hz)]; rfl
      generalize z.toInt.toNat = k at *
      refine mj_aload_n dMod_type_24 rfl ?_
      refine mj_get dMod_type_25 fg_Mod_50 rfl ?_
      refine mj_iload_n dMod_type_28 rfl ?_
      refine mj_iaload dMod_type_29 (by decide) rfl (show _ < 2 by decide) (by decide) ?_
      rw [l2]
      refine mj_iconst (v := nI 4) dMod_type_30 (by decide) ?_
      refine mj_iload_n dMod_type_31 rfl ?_
      refine mj_iadd dMod_type_32 ?_
      rw [show nI 4 + nI 1 = nI 5 from nI_add _ _]
      refine mj_icmp_ne (tgt := 40) dMod_type_33 (by decide) (fun hc5 => ?_) (fun hc5 => ?_)
      rotate_left
      · have h8 : A.2.2.2.1.length = 5 := (nI_eq (by omega) (by omega)).mp hc5
        rw [if_neg (by omega)] at u1
        refine mj_iconst (v := nI 2) dMod_type_36 (by decide) ?_
        refine mj_goto (tgt := 41) dMod_type_37 (by decide) ?_
        exact rej 2 (Or.inr rfl) (by rw [u1]; rfl) (by rw [u1]) (fun v z => by rw [u1] at z; cases z)
      have h8 : A.2.2.2.1.length < 5 := by
        have : A.2.2.2.1.length ≠ 5 := fun z => hc5 (by rw [z])
        omega
      rw [if_pos h8] at u1
      refine mj_iconst (v := nI 0) dMod_type_40 (by decide) ?_
      refine mj_put dMod_type_41 (fp_Mod_107 _) (by decide) ?_
      refine mj_aload_n dMod_type_44 rfl ?_
      refine mj_get dMod_type_45 fg_Mod_107 rfl ?_
      rw [mup_s]
      refine mj_if_eq (tgt := 53) dMod_type_48 (by decide) (fun hca => ?_) (fun hca => absurd rfl hca)
      have g1 : mup μ 0 0 (nI 0) 14 1 = nI A.2.2.2.1.length := by rw [mup_k _ _ (by decide)]; exact l2
      refine mj_aload_n dMod_type_53 rfl ?_
      refine mj_get dMod_type_54 fg_Mod_53 rfl ?_
      refine mj_iconst (v := nI 5) dMod_type_57 (by decide) ?_
      refine mj_iload_n dMod_type_58 rfl ?_
      refine mj_imul dMod_type_59 ?_
      refine mj_aload_n dMod_type_60 rfl ?_
      refine mj_get dMod_type_61 fg_Mod_50 rfl ?_
      refine mj_iload_n dMod_type_64 rfl ?_
      refine mj_iaload dMod_type_65 (by decide) rfl (show _ < 2 by decide) (by decide) ?_
      rw [g1]
      refine mj_iadd dMod_type_66 ?_
      rw [show nI 5 * nI 1 = nI 5 from pk_mul _ _, nI_add]
      refine mj_iload_n dMod_type_67 rfl ?_
      refine mj_iastore dMod_type_68 (by decide) rfl (show _ < 10 by omega) (by decide) ?_
      refine mj_aload_n dMod_type_69 rfl ?_
      refine mj_get dMod_type_70 fg_Mod_50 rfl ?_
      refine mj_iload_n dMod_type_73 rfl ?_
      refine mj_dup2 dMod_type_74 rfl rfl ?_
      refine mj_iaload dMod_type_75 (by decide) rfl (show _ < 2 by decide) (by decide) ?_
      rw [show mup (mup μ 0 0 (nI 0)) 15 (5 + A.2.2.2.1.length) z 14 1 = nI A.2.2.2.1.length from by rw [mup_k _ _ (by decide)]; exact g1]
      refine mj_iconst (v := nI 1) dMod_type_76 (by decide) ?_
      refine mj_iadd dMod_type_77 ?_
      rw [show nI A.2.2.2.1.length + nI 1 = nI (A.2.2.2.1.length + 1) from nI_add _ _]
      refine mj_iastore dMod_type_78 (by decide) rfl (show _ < 2 by decide) (by decide) ?_
      refine mj_aload_n dMod_type_79 rfl ?_
      refine mj_get dMod_type_80 fg_Mod_50 rfl ?_
      refine mj_iload_n dMod_type_83 rfl ?_
      refine mj_iaload dMod_type_84 (by decide) rfl (show _ < 2 by decide) (by decide) ?_
      rw [show mup (mup (mup μ 0 0 (nI 0)) 15 (5 + A.2.2.2.1.length) z) 14 1 (nI (A.2.2.2.1.length + 1)) 14 1 = nI (A.2.2.2.1.length + 1) from mup_s _ _ _ _]
      have hun : ∀ x y : Nat, ¬ ((x = 0 ∧ y = 0) ∨ x = 14 ∨ x = 15) → mup (mup (mup μ 0 0 (nI 0)) 15 (5 + A.2.2.2.1.length) z) 14 1 (nI (A.2.2.2.1.length + 1)) x y = μ x y := fun x y h => by
        rw [mup_ne _ _ (by omega), mup_ne _ _ (by omega), mup_ne _ _ (by omega)]
      have h15 : ∀ y : Nat, y ≠ 5 + A.2.2.2.1.length → mup (mup (mup μ 0 0 (nI 0)) 15 (5 + A.2.2.2.1.length) z) 14 1 (nI (A.2.2.2.1.length + 1)) 15 y = μ 15 y := fun y h => by
        rw [mup_k _ _ (by decide), mup_j _ _ h, mup_k _ _ (by decide)]
      refine mj_iret dMod_type_85 rfl ⟨?_, ?_, ⟨_, rfl⟩, fun v hv => by rw [u1] at hv; exact hv⟩
      · rw [mup_k _ _ (by decide), mup_k _ _ (by decide), mup_s, u1]; rfl
      · rw [u1]
        refine ⟨HV.eq (fun x y h => hun x y (by omega)), HE.eq (fun x y h => hun x y (by omega)), ?_, HP.eq (fun x y h => hun x y (by omega)), HZ.eq (fun x y h => hun x y (by omega))⟩
        refine ⟨?_, ?_, fun j hj => ?_, fun j hj => ?_, l5, by simp; omega, l7, snoc_lt l8 hz8⟩
        · rw [mup_j _ _ (by decide), mup_k _ _ (by decide), mup_k _ _ (by decide)]; exact l1
        · rw [mup_s, List.length_append]; rfl
        · have hj : j < A.2.2.1.length := hj
          rw [h15 _ (by omega)]; exact l3 j hj
        · dsimp only at hj ⊢
          by_cases e : j = A.2.2.2.1.length
          · subst e; rw [mup_k _ _ (by decide), mup_s, getD_snoc]; exact ez.1
          · rw [h15 _ (by omega), getD_snoc' e]; exact l4 j (by rw [List.length_append, List.length_singleton] at hj; omega)
    | false =>
      have hl9 : ln = 0 := hln
      subst hl9
      have u1 : mdType A false z = (if A.2.2.1.length < 4 then (rI (nI (A.2.2.1.length + 1)), (A.1, A.2.1, A.2.2.1 ++ [z.toInt.toNat], A.2.2.2)) else (.inr eS, A)) := by unfold mdType; rw [if_neg (fun y => y hz)]; rfl
      generalize z.toInt.toNat = k at *
      refine mj_aload_n dMod_type_24 rfl ?_
      refine mj_get dMod_type_25 fg_Mod_50 rfl ?_
      refine mj_iload_n dMod_type_28 rfl ?_
      refine mj_iaload dMod_type_29 (by decide) rfl (show _ < 2 by decide) (by decide) ?_
      rw [l1]
      refine mj_iconst (v := nI 4) dMod_type_30 (by decide) ?_
      refine mj_iload_n dMod_type_31 rfl ?_
      refine mj_iadd dMod_type_32 ?_
      rw [show nI 4 + nI 0 = nI 4 from nI_add _ _]
      refine mj_icmp_ne (tgt := 40) dMod_type_33 (by decide) (fun hc5 => ?_) (fun hc5 => ?_)
      rotate_left
      · have h8 : A.2.2.1.length = 4 := (nI_eq (by omega) (by omega)).mp hc5
        rw [if_neg (by omega)] at u1
        refine mj_iconst (v := nI 2) dMod_type_36 (by decide) ?_
        refine mj_goto (tgt := 41) dMod_type_37 (by decide) ?_
        exact rej 2 (Or.inr rfl) (by rw [u1]; rfl) (by rw [u1]) (fun v z => by rw [u1] at z; cases z)
      have h8 : A.2.2.1.length < 4 := by
        have : A.2.2.1.length ≠ 4 := fun z => hc5 (by rw [z])
        omega
      rw [if_pos h8] at u1
      refine mj_iconst (v := nI 0) dMod_type_40 (by decide) ?_
      refine mj_put dMod_type_41 (fp_Mod_107 _) (by decide) ?_
      refine mj_aload_n dMod_type_44 rfl ?_
      refine mj_get dMod_type_45 fg_Mod_107 rfl ?_
      rw [mup_s]
      refine mj_if_eq (tgt := 53) dMod_type_48 (by decide) (fun hca => ?_) (fun hca => absurd rfl hca)
      have g1 : mup μ 0 0 (nI 0) 14 0 = nI A.2.2.1.length := by rw [mup_k _ _ (by decide)]; exact l1
      refine mj_aload_n dMod_type_53 rfl ?_
      refine mj_get dMod_type_54 fg_Mod_53 rfl ?_
      refine mj_iconst (v := nI 5) dMod_type_57 (by decide) ?_
      refine mj_iload_n dMod_type_58 rfl ?_
      refine mj_imul dMod_type_59 ?_
      refine mj_aload_n dMod_type_60 rfl ?_
      refine mj_get dMod_type_61 fg_Mod_50 rfl ?_
      refine mj_iload_n dMod_type_64 rfl ?_
      refine mj_iaload dMod_type_65 (by decide) rfl (show _ < 2 by decide) (by decide) ?_
      rw [g1]
      refine mj_iadd dMod_type_66 ?_
      rw [show nI 5 * nI 0 = nI 0 from pk_mul _ _, nI_add]
      refine mj_iload_n dMod_type_67 rfl ?_
      refine mj_iastore dMod_type_68 (by decide) rfl (show _ < 10 by omega) (by decide) ?_
      refine mj_aload_n dMod_type_69 rfl ?_
      refine mj_get dMod_type_70 fg_Mod_50 rfl ?_
      refine mj_iload_n dMod_type_73 rfl ?_
      refine mj_dup2 dMod_type_74 rfl rfl ?_
      refine mj_iaload dMod_type_75 (by decide) rfl (show _ < 2 by decide) (by decide) ?_
      rw [show mup (mup μ 0 0 (nI 0)) 15 (0 + A.2.2.1.length) z 14 0 = nI A.2.2.1.length from by rw [mup_k _ _ (by decide)]; exact g1]
      refine mj_iconst (v := nI 1) dMod_type_76 (by decide) ?_
      refine mj_iadd dMod_type_77 ?_
      rw [show nI A.2.2.1.length + nI 1 = nI (A.2.2.1.length + 1) from nI_add _ _]
      refine mj_iastore dMod_type_78 (by decide) rfl (show _ < 2 by decide) (by decide) ?_
      refine mj_aload_n dMod_type_79 rfl ?_
      refine mj_get dMod_type_80 fg_Mod_50 rfl ?_
      refine mj_iload_n dMod_type_83 rfl ?_
      refine mj_iaload dMod_type_84 (by decide) rfl (show _ < 2 by decide) (by decide) ?_
      rw [show mup (mup (mup μ 0 0 (nI 0)) 15 (0 + A.2.2.1.length) z) 14 0 (nI (A.2.2.1.length + 1)) 14 0 = nI (A.2.2.1.length + 1) from mup_s _ _ _ _]
      have hun : ∀ x y : Nat, ¬ ((x = 0 ∧ y = 0) ∨ x = 14 ∨ x = 15) → mup (mup (mup μ 0 0 (nI 0)) 15 (0 + A.2.2.1.length) z) 14 0 (nI (A.2.2.1.length + 1)) x y = μ x y := fun x y h => by
        rw [mup_ne _ _ (by omega), mup_ne _ _ (by omega), mup_ne _ _ (by omega)]
      have h15 : ∀ y : Nat, y ≠ 0 + A.2.2.1.length → mup (mup (mup μ 0 0 (nI 0)) 15 (0 + A.2.2.1.length) z) 14 0 (nI (A.2.2.1.length + 1)) 15 y = μ 15 y := fun y h => by
        rw [mup_k _ _ (by decide), mup_j _ _ h, mup_k _ _ (by decide)]
      refine mj_iret dMod_type_85 rfl ⟨?_, ?_, ⟨_, rfl⟩, fun v hv => by rw [u1] at hv; exact hv⟩
      · rw [mup_k _ _ (by decide), mup_k _ _ (by decide), mup_s, u1]; rfl
      · rw [u1]
        refine ⟨HV.eq (fun x y h => hun x y (by omega)), HE.eq (fun x y h => hun x y (by omega)), ?_, HP.eq (fun x y h => hun x y (by omega)), HZ.eq (fun x y h => hun x y (by omega))⟩
        refine ⟨?_, ?_, fun j hj => ?_, fun j hj => ?_, by simp; omega, l6, snoc_lt l7 hz8, l8⟩
        · rw [mup_s, List.length_append]; rfl
        · rw [mup_j _ _ (by decide), mup_k _ _ (by decide), mup_k _ _ (by decide)]; exact l2
        · dsimp only at hj ⊢
          by_cases e : j = A.2.2.1.length
          · subst e; rw [mup_k _ _ (by decide), show 0 + A.2.2.1.length = A.2.2.1.length from Nat.zero_add _, mup_s, getD_snoc]; exact ez.1
          · rw [h15 _ (by omega), getD_snoc' e]; exact l3 j (by rw [List.length_append, List.length_singleton] at hj; omega)
        · have hj : j < A.2.2.2.1.length := hj
          rw [h15 _ (by omega)]; exact l4 j hj
  refine mc_of (L := [_, _, _, _]) (by decide) (Nat.le_of_ble_eq_true rfl) rfl ?_
  refine mj_iload_n dMod_type_0 rfl ?_
  refine mj_if_eq (tgt := 8) dMod_type_1 (by decide) (fun hc => ?_) (fun hc => ?_)
  · refine mj_iconst (v := nI 0) dMod_type_8 (by decide) ?_
    exact t9 0 (by rw [bI_0.mp hc]; rfl)
  · refine mj_iconst (v := nI 1) dMod_type_4 (by decide) ?_
    refine mj_goto (tgt := 9) dMod_type_5 (by decide) ?_
    exact t9 1 (by rw [bI_1 hc]; rfl)
theorem c_Mod_wipe {up : Bool} (H : Rm μ A) : Mc l G mMod_wipe d m [.ref m, .int (bI up)] μ (Ms thr1 (mdWipe A up)) := by
  have H0 := H
  obtain ⟨HV, HE, HL, HP, HZ⟩ := H
  obtain ⟨l1, l2, l3, l4, l5, l6, l7, l8⟩ := id HL
  refine mc_of (L := [_, _, _]) (by decide) (Nat.le_of_ble_eq_true rfl) rfl ?_
  refine mj_aload_n dMod_wipe_0 rfl ?_
  refine mj_iconst (v := nI 0) dMod_wipe_1 (by decide) ?_
  refine mj_put dMod_wipe_2 (fp_Mod_107 _) (by decide) ?_
  refine mj_aload_n dMod_wipe_5 rfl ?_
  refine mj_get dMod_wipe_6 fg_Mod_50 rfl ?_
  refine mj_iload_n dMod_wipe_9 rfl ?_
  cases up with
  | true =>
    refine mj_if_eq (tgt := 17) dMod_wipe_10 (by decide) (fun hc => ?_) (fun hc => ?_)
    · exact absurd hc (by decide)
    refine mj_iconst (v := nI 1) dMod_wipe_13 (by decide) ?_
    refine mj_goto (tgt := 18) dMod_wipe_14 (by decide) ?_
    refine mj_iaload dMod_wipe_18 (by decide) rfl (show _ < 2 by decide) (by decide) ?_
    rw [show mup μ 0 0 (nI 0) 14 1 = _ from (mup_k _ _ (by decide)).trans l2]
    refine mj_istore_n (L' := [_, _, _]) dMod_wipe_19 (by decide) rfl ?_
    refine mj_aload_n dMod_wipe_20 rfl ?_
    refine mj_get dMod_wipe_21 fg_Mod_50 rfl ?_
    refine mj_iload_n dMod_wipe_24 rfl ?_
    refine mj_if_eq (tgt := 32) dMod_wipe_25 (by decide) (fun hc2 => ?_) (fun hc2 => ?_)
    · exact absurd hc2 (by decide)
    refine mj_iconst (v := nI 1) dMod_wipe_28 (by decide) ?_
    refine mj_goto (tgt := 33) dMod_wipe_29 (by decide) ?_
    refine mj_iconst (v := nI 0) dMod_wipe_33 (by decide) ?_
    refine mj_iastore dMod_wipe_34 (by decide) rfl (show _ < 2 by decide) (by decide) ?_
    refine mj_iload_n dMod_wipe_35 rfl ?_
    have hun : ∀ x y : Nat, ¬ ((x = 0 ∧ y = 0) ∨ (x = 14 ∧ y = 1)) → mup (mup μ 0 0 (nI 0)) 14 1 (nI 0) x y = μ x y := fun x y h => by
      rw [mup_ne _ _ (by omega), mup_ne _ _ (by omega)]
    refine mj_iret dMod_wipe_36 rfl ⟨by rw [mup_k _ _ (by decide), mup_s]; rfl, ⟨HV.eq (fun x y h => hun x y (by omega)), HE.eq (fun x y h => hun x y (by omega)), ?_, HP.eq (fun x y h => hun x y (by omega)), HZ.eq (fun x y h => hun x y (by omega))⟩, ⟨_, rfl⟩, fun v hv => hv⟩
    exact ⟨(hun _ _ (by omega)).trans l1, mup_s _ _ _ _, fun j hj => (hun _ _ (by omega)).trans (l3 j hj), fun j hj => absurd hj (Nat.not_lt_zero _), l5, Nat.zero_le _, l7, fun j => by simp [mdWipe]⟩
  | false =>
    refine mj_if_eq (tgt := 17) dMod_wipe_10 (by decide) (fun hc => ?_) (fun hc => ?_)
    rotate_left
    · exact absurd rfl hc
    refine mj_iconst (v := nI 0) dMod_wipe_17 (by decide) ?_
    refine mj_iaload dMod_wipe_18 (by decide) rfl (show _ < 2 by decide) (by decide) ?_
    rw [show mup μ 0 0 (nI 0) 14 0 = _ from (mup_k _ _ (by decide)).trans l1]
    refine mj_istore_n (L' := [_, _, _]) dMod_wipe_19 (by decide) rfl ?_
    refine mj_aload_n dMod_wipe_20 rfl ?_
    refine mj_get dMod_wipe_21 fg_Mod_50 rfl ?_
    refine mj_iload_n dMod_wipe_24 rfl ?_
    refine mj_if_eq (tgt := 32) dMod_wipe_25 (by decide) (fun hc2 => ?_) (fun hc2 => ?_)
    rotate_left
    · exact absurd rfl hc2
    refine mj_iconst (v := nI 0) dMod_wipe_32 (by decide) ?_
    refine mj_iconst (v := nI 0) dMod_wipe_33 (by decide) ?_
    refine mj_iastore dMod_wipe_34 (by decide) rfl (show _ < 2 by decide) (by decide) ?_
    refine mj_iload_n dMod_wipe_35 rfl ?_
    have hun : ∀ x y : Nat, ¬ ((x = 0 ∧ y = 0) ∨ (x = 14 ∧ y = 0)) → mup (mup μ 0 0 (nI 0)) 14 0 (nI 0) x y = μ x y := fun x y h => by
      rw [mup_ne _ _ (by omega), mup_ne _ _ (by omega)]
    refine mj_iret dMod_wipe_36 rfl ⟨by rw [mup_k _ _ (by decide), mup_s]; rfl, ⟨HV.eq (fun x y h => hun x y (by omega)), HE.eq (fun x y h => hun x y (by omega)), ?_, HP.eq (fun x y h => hun x y (by omega)), HZ.eq (fun x y h => hun x y (by omega))⟩, ⟨_, rfl⟩, fun v hv => hv⟩
    exact ⟨mup_s _ _ _ _, (hun _ _ (by omega)).trans l2, fun j hj => absurd hj (Nat.not_lt_zero _), fun j hj => (hun _ _ (by omega)).trans (l4 j hj), Nat.zero_le _, l6, fun j => by simp [mdWipe], l8⟩
theorem c_Mod_length {k : Int32} {b : Bool} (H : Rm μ A) : Mc l G mMod_length d m [.ref m, .int k, .int (bI b)] μ (Ms thr1 (mdLen A k b)) := by
  have H0 := H
  obtain ⟨HV, HE, HL, HP, HZ⟩ := H
  obtain ⟨z1, z2, z3, z4⟩ := id HZ
  have t13 : ¬ (0 ≤ k.toInt ∧ k.toInt < A.2.2.2.2.2.length) → Mj (l, G, d, m, Ms thr1 (mdLen A k b)) mMod_length 13 [some (.ref m), some (.int k), some (.int (bI b))] [.ref m] μ := by
    intro hn
    have e : mdLen A k b = (.inr eO, A) := by unfold mdLen; rw [if_neg hn]
    refine mj_iconst (v := nI 1) dMod_length_13 (by decide) ?_
    refine mj_goto (tgt := 18) dMod_length_14 (by decide) ?_
    refine mj_put dMod_length_18 (fp_Mod_107 _) (by decide) ?_
    refine mj_aload_n dMod_length_21 rfl ?_
    refine mj_get dMod_length_22 fg_Mod_107 rfl ?_
    rw [mup_s]
    refine mj_if_eq (tgt := 32) dMod_length_25 (by decide) (fun hcr => absurd hcr (by decide)) (fun hcr => ?_)
    refine mj_iconst (v := nI 0) dMod_length_28 (by decide) ?_
    refine mj_goto (tgt := 51) dMod_length_29 (by decide) ?_
    exact mj_iret dMod_length_51 rfl ⟨by rw [mup_s, e]; rfl, by rw [e]; exact H0.th, ⟨_, rfl⟩, fun v hv => by rw [e] at hv; cases hv⟩
  refine mc_of (L := [_, _, _]) (by decide) (Nat.le_of_ble_eq_true rfl) rfl ?_
  refine mj_aload_n dMod_length_0 rfl ?_
  refine mj_iload_n dMod_length_1 rfl ?_
  refine mj_if_lt (tgt := 13) dMod_length_2 (by decide) (fun hc => ?_) (fun hc => ?_)
  · rw [lt0] at hc; exact t13 (by omega)
  rw [lt0] at hc
  refine mj_iload_n dMod_length_5 rfl ?_
  refine mj_aload_n dMod_length_6 rfl ?_
  refine mj_get dMod_length_7 fg_Mod_118 rfl ?_
  rw [z1]
  refine mj_icmp_lt (tgt := 17) dMod_length_10 (by decide) (fun hc2 => ?_) (fun hc2 => ?_)
  rotate_left
  · rw [ltN (by omega)] at hc2; exact t13 (by omega)
  rw [ltN (by omega)] at hc2
  have ek := iv_of (a := k) (by omega)
  have hk : k.toInt.toNat < A.2.2.2.2.2.length := by omega
  have hd := (z4 _ (getD_mem (d := 0) hk)).dig
  have zz := z2 _ hk
  have u1 : mdLen A k b = (rI (nI (rdig (A.2.2.2.2.2.getD k.toInt.toNat 0) (if b then 6 else 0))), A) := by unfold mdLen; rw [if_pos ⟨by omega, hc2⟩]
  generalize k.toInt.toNat = j at *
  refine mj_iconst (v := nI 0) dMod_length_17 (by decide) ?_
  refine mj_put dMod_length_18 (fp_Mod_107 _) (by decide) ?_
  refine mj_aload_n dMod_length_21 rfl ?_
  refine mj_get dMod_length_22 fg_Mod_107 rfl ?_
  rw [mup_s]
  refine mj_if_eq (tgt := 32) dMod_length_25 (by decide) (fun hca => ?_) (fun hca => absurd rfl hca)
  refine mj_iload_n dMod_length_32 rfl ?_
  cases b with
  | true =>
    refine mj_if_eq (tgt := 45) dMod_length_33 (by decide) (fun hc3 => ?_) (fun hc3 => ?_)
    · exact absurd hc3 (by decide)
    refine mj_aload_n dMod_length_36 rfl ?_
    refine mj_get dMod_length_37 fg_Mod_62 rfl ?_
    refine mj_iload_n dMod_length_40 rfl ?_
    refine mj_iaload dMod_length_41 (by decide) ek.1 (show _ < 60 by omega) (by decide) ?_
    refine mj_goto (tgt := 51) dMod_length_42 (by decide) ?_
    rw [show mup μ 0 0 (nI 0) 18 j = μ 18 j from mup_k _ _ (by decide), (zz.2.2.1), hd.2.1]
    exact mj_iret dMod_length_51 rfl ⟨by rw [mup_s, u1]; rfl, by rw [u1]; exact H0.th, ⟨_, rfl⟩, fun v hv => by rw [u1] at hv; exact hv⟩
  | false =>
    refine mj_if_eq (tgt := 45) dMod_length_33 (by decide) (fun hc3 => ?_) (fun hc3 => ?_)
    rotate_left
    · exact absurd rfl hc3
    refine mj_aload_n dMod_length_45 rfl ?_
    refine mj_get dMod_length_46 fg_Mod_56 rfl ?_
    refine mj_iload_n dMod_length_49 rfl ?_
    refine mj_iaload dMod_length_50 (by decide) ek.1 (show _ < 60 by omega) (by decide) ?_
    rw [show mup μ 0 0 (nI 0) 16 j = μ 16 j from mup_k _ _ (by decide), zz.1, hd.1]
    exact mj_iret dMod_length_51 rfl ⟨by rw [mup_s, u1]; rfl, by rw [u1]; exact H0.th, ⟨_, rfl⟩, fun v hv => by rw [u1] at hv; exact hv⟩
theorem c_Mod_result {k i : Int32} {b : Bool} (H : Rm μ A) : Mc l G mMod_result d m [.ref m, .int k, .int i, .int (bI b)] μ (Ms thr1 (mdRes A k i b)) := by
  have H0 := H
  obtain ⟨HV, HE, HL, HP, HZ⟩ := H
  obtain ⟨z1, z2, z3, z4⟩ := id HZ
  have rej : ∀ x4 x5, mdRes A k i b = (.inr eO, A) → Mj (l, G, d, m, Ms thr1 (mdRes A k i b)) mMod_result 61 [some (.ref m), some (.int k), some (.int i), some (.int (bI b)), x4, x5] [.int (nI 1), .ref m] μ := by
    intro x4 x5 e
    refine mj_put dMod_result_61 (fp_Mod_107 _) (by decide) ?_
    refine mj_aload_n dMod_result_64 rfl ?_
    refine mj_get dMod_result_65 fg_Mod_107 rfl ?_
    rw [mup_s]
    refine mj_if_eq (tgt := 73) dMod_result_68 (by decide) (fun hcr => absurd hcr (by decide)) (fun hcr => ?_)
    refine mj_iconst (v := nI 0) dMod_result_71 (by decide) ?_
    exact mj_iret dMod_result_72 rfl ⟨by rw [mup_s, e]; rfl, by rw [e]; exact H0.th, ⟨_, rfl⟩, fun v hv => by rw [e] at hv; cases hv⟩
  have t21 : ∀ bad : Bool, bad = decide (¬ (0 ≤ k.toInt ∧ k.toInt < A.2.2.2.2.2.length) ∨ i.toInt < 0) → Mj (l, G, d, m, Ms thr1 (mdRes A k i b)) mMod_result 21 [some (.ref m), some (.int k), some (.int i), some (.int (bI b)), none, none] [.int (bI bad)] μ := by
    intro bad hbad
    refine mj_istore (L' := [_, _, _, _, _, _]) dMod_result_21 (by decide) rfl ?_
    refine mj_aload_n dMod_result_23 rfl ?_
    refine mj_iload dMod_result_24 rfl ?_
    refine mj_if_eq (tgt := 33) dMod_result_26 (by decide) (fun hc => ?_) (fun hc => ?_)
    rotate_left
    · rw [bI_1 hc] at hbad
      have q := of_decide_eq_true hbad.symm
      have e : mdRes A k i b = (.inr eO, A) := by
        unfold mdRes
        by_cases q1 : 0 ≤ k.toInt ∧ k.toInt < A.2.2.2.2.2.length
        · rw [if_pos q1, if_neg (by omega)]
        · rw [if_neg q1]
      refine mj_iconst (v := nI 1) dMod_result_29 (by decide) ?_
      refine mj_goto (tgt := 61) dMod_result_30 (by decide) ?_
      exact rej _ _ e
    rw [bI_0.mp hc] at hbad
    have q := of_decide_eq_false hbad.symm
    have hk9 : 0 ≤ k.toInt ∧ k.toInt < A.2.2.2.2.2.length := by omega
    have hi9 : 0 ≤ i.toInt := by omega
    have ek := iv_of hk9.1
    have ei := iv_of hi9
    have hk : k.toInt.toNat < A.2.2.2.2.2.length := by omega
    have hvt := z4 _ (getD_mem (d := 0) hk)
    have hd := hvt.dig
    have hb9 := hvt.b
    have zz := z2 _ hk
    have u1 : mdRes A k i b = (if 0 ≤ i.toInt ∧ i.toInt < rdig (A.2.2.2.2.2.getD k.toInt.toNat 0) (if b then 6 else 0) then (rI (nI (rdig (A.2.2.2.2.2.getD k.toInt.toNat 0) ((if b then 7 else 1) + i.toInt.toNat))), A) else (.inr eO, A)) := by unfold mdRes; rw [if_pos hk9]
    generalize k.toInt.toNat = j at *
    generalize A.2.2.2.2.2.getD j 0 = kk9 at *
    refine mj_iload_n dMod_result_33 rfl ?_
    refine mj_iload_n dMod_result_34 rfl ?_
    cases b with
    | true =>
      refine mj_if_eq (tgt := 47) dMod_result_35 (by decide) (fun hc3 => ?_) (fun hc3 => ?_)
      · exact absurd hc3 (by decide)
      have u2 : mdRes A k i true = (if 0 ≤ i.toInt ∧ i.toInt < rdig kk9 6 then (rI (nI (rdig kk9 (7 + i.toInt.toNat))), A) else (.inr eO, A)) := u1
      rw [← hd.2.1] at u2
      refine mj_aload_n dMod_result_38 rfl ?_
      refine mj_get dMod_result_39 fg_Mod_62 rfl ?_
      refine mj_iload_n dMod_result_42 rfl ?_
      refine mj_iaload dMod_result_43 (by decide) ek.1 (show _ < 60 by omega) (by decide) ?_
      refine mj_goto (tgt := 53) dMod_result_44 (by decide) ?_
      rw [zz.2.2.1]
      refine mj_icmp_lt (tgt := 60) dMod_result_53 (by decide) (fun hc4 => ?_) (fun hc4 => ?_)
      rotate_left
      · rw [ltN (by omega)] at hc4
        rw [if_neg (by omega)] at u2
        refine mj_iconst (v := nI 1) dMod_result_56 (by decide) ?_
        refine mj_goto (tgt := 61) dMod_result_57 (by decide) ?_
        exact rej _ _ u2
      rw [ltN (by omega)] at hc4
      rw [if_pos ⟨hi9, hc4⟩] at u2
      have hin : i.toInt.toNat < dC kk9 := by omega
      have hdd := hd.2.2.2 i.toInt.toNat hin
      refine mj_iconst (v := nI 0) dMod_result_60 (by decide) ?_
      refine mj_put dMod_result_61 (fp_Mod_107 _) (by decide) ?_
      refine mj_aload_n dMod_result_64 rfl ?_
      refine mj_get dMod_result_65 fg_Mod_107 rfl ?_
      rw [mup_s]
      refine mj_if_eq (tgt := 73) dMod_result_68 (by decide) (fun hca => ?_) (fun hca => absurd rfl hca)
      refine mj_iload_n dMod_result_73 rfl ?_
      refine mj_if_eq (tgt := 86) dMod_result_74 (by decide) (fun hc5 => ?_) (fun hc5 => ?_)
      · exact absurd hc5 (by decide)
      refine mj_aload_n dMod_result_77 rfl ?_
      refine mj_get dMod_result_78 fg_Mod_62 rfl ?_
      refine mj_iload_n dMod_result_81 rfl ?_
      refine mj_iaload dMod_result_82 (by decide) ek.1 (show _ < 60 by omega) (by decide) ?_
      refine mj_goto (tgt := 92) dMod_result_83 (by decide) ?_
      rw [show mup μ 0 0 (nI 0) 18 j = μ 18 j from mup_k _ _ (by decide), zz.2.2.1]
      refine mj_istore (L' := [_, _, _, _, _, _]) dMod_result_92 (by decide) rfl ?_
      refine mj_iload_n dMod_result_94 rfl ?_
      refine mj_if_eq (tgt := 107) dMod_result_95 (by decide) (fun hc6 => ?_) (fun hc6 => ?_)
      · exact absurd hc6 (by decide)
      refine mj_aload_n dMod_result_98 rfl ?_
      refine mj_get dMod_result_99 fg_Mod_65 rfl ?_
      refine mj_iload_n dMod_result_102 rfl ?_
      refine mj_iaload dMod_result_103 (by decide) ek.1 (show _ < 60 by omega) (by decide) ?_
      refine mj_goto (tgt := 113) dMod_result_104 (by decide) ?_
      rw [show mup μ 0 0 (nI 0) 19 j = μ 19 j from mup_k _ _ (by decide), zz.2.2.2]
      refine mj_iconst (v := nI 3) dMod_result_113 (by decide) ?_
      refine mj_iload dMod_result_114 rfl ?_
      refine mj_iconst (v := nI 1) dMod_result_116 (by decide) ?_
      refine mj_isub dMod_result_117 ?_
      refine mj_iload_n dMod_result_118 rfl ?_
      refine mj_isub dMod_result_119 ?_
      refine mj_imul dMod_result_120 ?_
      rw [pk_sub (show 1 ≤ dC kk9 by omega)]
      rw [show (nI (dC kk9 - 1) - i : Int32) = nI (dC kk9 - 1 - i.toInt.toNat) from by
        have := pk_sub (a := dC kk9 - 1) (b := i.toInt.toNat) (by omega)
        rw [← ei.1] at this; exact this, pk_mul]
      refine mj_ishr dMod_result_121 ?_
      rw [nb_shr (by omega) (by omega)]
      refine mj_bipush (v := nI 7) dMod_result_122 (by decide) ?_
      refine mj_iand dMod_result_124 ?_
      rw [nb_and, Nat.shiftRight_eq_div_pow, show dE kk9 / 2 ^ (3 * (dC kk9 - 1 - i.toInt.toNat)) &&& 7 = dE kk9 / 2 ^ (3 * (dC kk9 - 1 - i.toInt.toNat)) % 8 from Nat.and_two_pow_sub_one_eq_mod _ 3, hdd]
      exact mj_iret dMod_result_125 rfl ⟨by rw [mup_s, u2]; rfl, by rw [u2]; exact H0.th, ⟨_, rfl⟩, fun v hv => by rw [u2] at hv; exact hv⟩
    | false =>
      refine mj_if_eq (tgt := 47) dMod_result_35 (by decide) (fun hc3 => ?_) (fun hc3 => ?_)
      rotate_left
      · exact absurd rfl hc3
      have u2 : mdRes A k i false = (if 0 ≤ i.toInt ∧ i.toInt < rdig kk9 0 then (rI (nI (rdig kk9 (1 + i.toInt.toNat))), A) else (.inr eO, A)) := u1
      rw [← hd.1] at u2
      refine mj_aload_n dMod_result_47 rfl ?_
      refine mj_get dMod_result_48 fg_Mod_56 rfl ?_
      refine mj_iload_n dMod_result_51 rfl ?_
      refine mj_iaload dMod_result_52 (by decide) ek.1 (show _ < 60 by omega) (by decide) ?_
      rw [zz.1]
      refine mj_icmp_lt (tgt := 60) dMod_result_53 (by decide) (fun hc4 => ?_) (fun hc4 => ?_)
      rotate_left
      · rw [ltN (by omega)] at hc4
        rw [if_neg (by omega)] at u2
        refine mj_iconst (v := nI 1) dMod_result_56 (by decide) ?_
        refine mj_goto (tgt := 61) dMod_result_57 (by decide) ?_
        exact rej _ _ u2
      rw [ltN (by omega)] at hc4
      rw [if_pos ⟨hi9, hc4⟩] at u2
      have hin : i.toInt.toNat < dS kk9 := by omega
      have hdd := hd.2.2.1 i.toInt.toNat hin
      refine mj_iconst (v := nI 0) dMod_result_60 (by decide) ?_
      refine mj_put dMod_result_61 (fp_Mod_107 _) (by decide) ?_
      refine mj_aload_n dMod_result_64 rfl ?_
      refine mj_get dMod_result_65 fg_Mod_107 rfl ?_
      rw [mup_s]
      refine mj_if_eq (tgt := 73) dMod_result_68 (by decide) (fun hca => ?_) (fun hca => absurd rfl hca)
      refine mj_iload_n dMod_result_73 rfl ?_
      refine mj_if_eq (tgt := 86) dMod_result_74 (by decide) (fun hc5 => ?_) (fun hc5 => ?_)
      rotate_left
      · exact absurd rfl hc5
      refine mj_aload_n dMod_result_86 rfl ?_
      refine mj_get dMod_result_87 fg_Mod_56 rfl ?_
      refine mj_iload_n dMod_result_90 rfl ?_
      refine mj_iaload dMod_result_91 (by decide) ek.1 (show _ < 60 by omega) (by decide) ?_
      rw [show mup μ 0 0 (nI 0) 16 j = μ 16 j from mup_k _ _ (by decide), zz.1]
      refine mj_istore (L' := [_, _, _, _, _, _]) dMod_result_92 (by decide) rfl ?_
      refine mj_iload_n dMod_result_94 rfl ?_
      refine mj_if_eq (tgt := 107) dMod_result_95 (by decide) (fun hc6 => ?_) (fun hc6 => ?_)
      rotate_left
      · exact absurd rfl hc6
      refine mj_aload_n dMod_result_107 rfl ?_
      refine mj_get dMod_result_108 fg_Mod_59 rfl ?_
      refine mj_iload_n dMod_result_111 rfl ?_
      refine mj_iaload dMod_result_112 (by decide) ek.1 (show _ < 60 by omega) (by decide) ?_
      rw [show mup μ 0 0 (nI 0) 17 j = μ 17 j from mup_k _ _ (by decide), zz.2.1]
      refine mj_iconst (v := nI 3) dMod_result_113 (by decide) ?_
      refine mj_iload dMod_result_114 rfl ?_
      refine mj_iconst (v := nI 1) dMod_result_116 (by decide) ?_
      refine mj_isub dMod_result_117 ?_
      refine mj_iload_n dMod_result_118 rfl ?_
      refine mj_isub dMod_result_119 ?_
      refine mj_imul dMod_result_120 ?_
      rw [pk_sub (show 1 ≤ dS kk9 by omega)]
      rw [show (nI (dS kk9 - 1) - i : Int32) = nI (dS kk9 - 1 - i.toInt.toNat) from by
        have := pk_sub (a := dS kk9 - 1) (b := i.toInt.toNat) (by omega)
        rw [← ei.1] at this; exact this, pk_mul]
      refine mj_ishr dMod_result_121 ?_
      rw [nb_shr (by omega) (by omega)]
      refine mj_bipush (v := nI 7) dMod_result_122 (by decide) ?_
      refine mj_iand dMod_result_124 ?_
      rw [nb_and, Nat.shiftRight_eq_div_pow, show dT kk9 / 2 ^ (3 * (dS kk9 - 1 - i.toInt.toNat)) &&& 7 = dT kk9 / 2 ^ (3 * (dS kk9 - 1 - i.toInt.toNat)) % 8 from Nat.and_two_pow_sub_one_eq_mod _ 3, hdd]
      exact mj_iret dMod_result_125 rfl ⟨by rw [mup_s, u2]; rfl, by rw [u2]; exact H0.th, ⟨_, rfl⟩, fun v hv => by rw [u2] at hv; exact hv⟩
  have big : (¬ (0 ≤ k.toInt ∧ k.toInt < A.2.2.2.2.2.length) ∨ i.toInt < 0) → Mj (l, G, d, m, Ms thr1 (mdRes A k i b)) mMod_result 16 [some (.ref m), some (.int k), some (.int i), some (.int (bI b)), none, none] [] μ := by
    intro h9
    refine mj_iconst (v := nI 1) dMod_result_16 (by decide) ?_
    refine mj_goto (tgt := 21) dMod_result_17 (by decide) ?_
    exact t21 true (decide_eq_true h9).symm
  refine mc_of (L := [_, _, _, _, _, _]) (by decide) (Nat.le_of_ble_eq_true rfl) rfl ?_
  refine mj_iload_n dMod_result_0 rfl ?_
  refine mj_if_lt (tgt := 16) dMod_result_1 (by decide) (fun hc => ?_) (fun hc => ?_)
  · rw [lt0] at hc; exact big (by omega)
  rw [lt0] at hc
  refine mj_iload_n dMod_result_4 rfl ?_
  refine mj_aload_n dMod_result_5 rfl ?_
  refine mj_get dMod_result_6 fg_Mod_118 rfl ?_
  rw [z1]
  refine mj_icmp_ge (tgt := 16) dMod_result_9 (by decide) (fun hc2 => ?_) (fun hc2 => ?_)
  · rw [Nle (by omega)] at hc2; exact big (by omega)
  rw [Nle (by omega)] at hc2
  refine mj_iload_n dMod_result_12 rfl ?_
  refine mj_if_ge (tgt := 20) dMod_result_13 (by decide) (fun hc3 => ?_) (fun hc3 => ?_)
  · rw [Int32.le_iff_toInt_le] at hc3
    have h0 : (0 : Int32).toInt = 0 := rfl
    refine mj_iconst (v := nI 0) dMod_result_20 (by decide) ?_
    exact t21 false (decide_eq_false (by omega)).symm
  rw [Int32.le_iff_toInt_le] at hc3
  have h0 : (0 : Int32).toInt = 0 := rfl
  exact big (by omega)
theorem c_Mod_sample (H : Rm μ A) : Mc l G mMod_sample d m [.ref m] μ (Ms thr2 (mdSample A)) := by
  have H0 := H
  obtain ⟨HV, HE, HL, HP, HZ⟩ := H
  obtain ⟨p1, p2, p3⟩ := id HP
  obtain ⟨l1, l2, l3, l4, l5, l6, l7, l8⟩ := id HL
  refine mc_of (L := [_, _]) (by decide) (Nat.le_of_ble_eq_true rfl) rfl ?_
  refine mj_aload_n dMod_sample_0 rfl ?_
  refine mj_aload_n dMod_sample_1 rfl ?_
  refine mj_get dMod_sample_2 fg_Mod_198 rfl ?_
  refine mj_bipush (v := nI 8) dMod_sample_5 (by decide) ?_
  rw [p1]
  refine mj_icmp_ne (tgt := 14) dMod_sample_7 (by decide) (fun hc => ?_) (fun hc => ?_)
  rotate_left
  · have h8 : A.2.2.2.2.1.length = 8 := (nI_eq (by omega) (by omega)).mp hc
    have u1 : mdSample A = (.inr eS, A) := by unfold mdSample; rw [if_neg (by omega)]
    refine mj_iconst (v := nI 1) dMod_sample_10 (by decide) ?_
    refine mj_goto (tgt := 15) dMod_sample_11 (by decide) ?_
    refine mj_put dMod_sample_15 (fp_Mod_107 _) (by decide) ?_
    refine mj_aload_n dMod_sample_18 rfl ?_
    refine mj_get dMod_sample_19 fg_Mod_107 rfl ?_
    rw [mup_s]
    refine mj_if_eq (tgt := 27) dMod_sample_22 (by decide) (fun hcr => absurd hcr (by decide)) (fun hcr => ?_)
    refine mj_iconst (v := nI 0) dMod_sample_25 (by decide) ?_
    exact mj_iret dMod_sample_26 rfl ⟨by rw [mup_s, u1]; rfl, by rw [u1]; exact H0.th, ⟨_, rfl⟩, fun v hv => by rw [u1] at hv; cases hv⟩
  have h8 : A.2.2.2.2.1.length < 8 := by
    have : A.2.2.2.2.1.length ≠ 8 := fun z => hc (by rw [z])
    omega
  have u1 : mdSample A = (rI (nI A.2.2.2.2.1.length), (A.1, A.2.1, A.2.2.1, A.2.2.2.1, A.2.2.2.2.1 ++ [(A.2.2.1, A.2.2.2.1)], A.2.2.2.2.2)) := by unfold mdSample; rw [if_pos h8]
  generalize hn : A.2.2.2.2.1.length = n at *
  refine mj_iconst (v := nI 0) dMod_sample_14 (by decide) ?_
  refine mj_put dMod_sample_15 (fp_Mod_107 _) (by decide) ?_
  refine mj_aload_n dMod_sample_18 rfl ?_
  refine mj_get dMod_sample_19 fg_Mod_107 rfl ?_
  rw [mup_s]
  refine mj_if_eq (tgt := 27) dMod_sample_22 (by decide) (fun hca => ?_) (fun hca => absurd rfl hca)
  have g1 : mup μ 0 0 (nI 0) 0 29 = nI n := by rw [mup_j _ _ (by decide)]; exact p1
  have g2 : ∀ x, mup μ 0 0 (nI 0) 14 x = μ 14 x := fun x => mup_k _ _ (by decide)
  refine mj_aload_n dMod_sample_27 rfl ?_
  refine mj_get dMod_sample_28 fg_Mod_80 rfl ?_
  refine mj_iconst (v := nI 2) dMod_sample_31 (by decide) ?_
  refine mj_aload_n dMod_sample_32 rfl ?_
  refine mj_get dMod_sample_33 fg_Mod_198 rfl ?_
  refine mj_imul dMod_sample_36 ?_
  rw [g1, show nI 2 * nI n = nI (2 * n) from pk_mul _ _]
  refine mj_aload_n dMod_sample_37 rfl ?_
  refine mj_get dMod_sample_38 fg_Mod_50 rfl ?_
  refine mj_iconst (v := nI 0) dMod_sample_41 (by decide) ?_
  refine mj_iaload dMod_sample_42 (by decide) rfl (show _ < 2 by decide) (by decide) ?_
  rw [g2, l1]
  refine mj_iastore dMod_sample_43 (by decide) rfl (show _ < 16 by omega) (by decide) ?_
  refine mj_aload_n dMod_sample_44 rfl ?_
  refine mj_get dMod_sample_45 fg_Mod_80 rfl ?_
  refine mj_iconst (v := nI 2) dMod_sample_48 (by decide) ?_
  refine mj_aload_n dMod_sample_49 rfl ?_
  refine mj_get dMod_sample_50 fg_Mod_198 rfl ?_
  refine mj_imul dMod_sample_53 ?_
  rw [show mup (mup μ 0 0 (nI 0)) 24 (2 * n) (nI A.2.2.1.length) 0 29 = nI n from by rw [mup_k _ _ (by decide)]; exact g1, show nI 2 * nI n = nI (2 * n) from pk_mul _ _]
  refine mj_iconst (v := nI 1) dMod_sample_54 (by decide) ?_
  refine mj_iadd dMod_sample_55 ?_
  refine mj_aload_n dMod_sample_56 rfl ?_
  refine mj_get dMod_sample_57 fg_Mod_50 rfl ?_
  refine mj_iconst (v := nI 1) dMod_sample_60 (by decide) ?_
  refine mj_iaload dMod_sample_61 (by decide) rfl (show _ < 2 by decide) (by decide) ?_
  rw [show nI (2 * n) + nI 1 = nI (2 * n + 1) from nI_add _ _, show mup (mup μ 0 0 (nI 0)) 24 (2 * n) (nI A.2.2.1.length) 14 1 = nI A.2.2.2.1.length from by rw [mup_k _ _ (by decide), g2]; exact l2]
  refine mj_iastore dMod_sample_62 (by decide) rfl (show _ < 16 by omega) (by decide) ?_
  refine mj_iconst (v := nI 0) dMod_sample_63 (by decide) ?_
  refine mj_istore_n (L' := [_, _]) dMod_sample_64 (by decide) rfl ?_
  have hS0 : ∀ x y : Nat, ¬ ((x = 0 ∧ y = 0) ∨ (x = 24 ∧ (y = 2 * n ∨ y = 2 * n + 1))) → mup (mup (mup μ 0 0 (nI 0)) 24 (2 * n) (nI A.2.2.1.length)) 24 (2 * n + 1) (nI A.2.2.2.1.length) x y = μ x y := fun x y h => by
    rw [mup_ne _ _ (by omega), mup_ne _ _ (by omega), mup_ne _ _ (by omega)]
  have k1 : mup (mup (mup μ 0 0 (nI 0)) 24 (2 * n) (nI A.2.2.1.length)) 24 (2 * n + 1) (nI A.2.2.2.1.length) 24 (2 * n) = nI A.2.2.1.length := by rw [mup_j _ _ (by omega), mup_s]
  have k2 : mup (mup (mup μ 0 0 (nI 0)) 24 (2 * n) (nI A.2.2.1.length)) 24 (2 * n + 1) (nI A.2.2.2.1.length) 24 (2 * n + 1) = nI A.2.2.2.1.length := mup_s _ _ _ _
  have k0 : mup (mup (mup μ 0 0 (nI 0)) 24 (2 * n) (nI A.2.2.1.length)) 24 (2 * n + 1) (nI A.2.2.2.1.length) 0 0 = 0 := by rw [mup_k _ _ (by decide), mup_k _ _ (by decide), mup_s]; rfl
  generalize mup (mup (mup μ 0 0 (nI 0)) 24 (2 * n) (nI A.2.2.1.length)) 24 (2 * n + 1) (nI A.2.2.2.1.length) = μ1 at *
  have loop : ∀ (j i : Nat) (μ2 : xMu), i + j = 10 → (∀ x y : Nat, ¬ (x = 25 ∧ 10 * n ≤ y ∧ y < 10 * n + 10) → μ2 x y = μ1 x y) → (∀ q, q < i → μ2 25 (10 * n + q) = μ 15 q) → Mj (l, G, d, m, Ms thr2 (mdSample A)) mMod_sample 65 [some (.ref m), some (.int (nI i))] [] μ2 := by
    intro j
    induction j with
    | zero =>
      intro i μ2 hij N2 hq
      have e : i = 10 := by omega
      subst e
      have n29 : μ2 0 29 = nI n := (N2 _ _ (by omega)).trans ((hS0 _ _ (by omega)).trans p1)
      refine mj_iload_n dMod_sample_65 rfl ?_
      refine mj_bipush (v := nI 10) dMod_sample_66 (by decide) ?_
      refine mj_icmp_ge (tgt := 97) dMod_sample_68 (by decide) (fun hc2 => ?_) (fun hc2 => ?_)
      rotate_left
      · exact absurd (by decide) hc2
      refine mj_aload_n dMod_sample_97 rfl ?_
      refine mj_dup dMod_sample_98 rfl ?_
      refine mj_get dMod_sample_99 fg_Mod_198 rfl ?_
      refine mj_iconst (v := nI 1) dMod_sample_102 (by decide) ?_
      rw [n29]
      refine mj_iadd dMod_sample_103 ?_
      rw [show nI n + nI 1 = nI (n + 1) from nI_add _ _]
      refine mj_put dMod_sample_104 (fp_Mod_198 _) (by decide) ?_
      refine mj_aload_n dMod_sample_107 rfl ?_
      refine mj_get dMod_sample_108 fg_Mod_198 rfl ?_
      refine mj_iconst (v := nI 1) dMod_sample_111 (by decide) ?_
      rw [mup_s]
      refine mj_isub dMod_sample_112 ?_
      rw [show nI (n + 1) - nI 1 = nI n from pk_sub (a := n + 1) (b := 1) (by omega)]
      have hun : ∀ x y : Nat, ¬ ((x = 0 ∧ (y = 0 ∨ y = 29)) ∨ (x = 24 ∧ (y = 2 * n ∨ y = 2 * n + 1)) ∨ (x = 25 ∧ 10 * n ≤ y ∧ y < 10 * n + 10)) → mup μ2 0 29 (nI (n + 1)) x y = μ x y := fun x y h => by
        rw [mup_ne _ _ (by omega), N2 _ _ (by omega), hS0 _ _ (by omega)]
      have h24 : ∀ y, mup μ2 0 29 (nI (n + 1)) 24 y = μ1 24 y := fun y => by rw [mup_k _ _ (by decide), N2 _ _ (by omega)]
      have h25 : ∀ q, q < 10 → mup μ2 0 29 (nI (n + 1)) 25 (10 * n + q) = μ 15 q := fun q h => by rw [mup_k _ _ (by decide)]; exact hq q h
      refine mj_iret dMod_sample_113 rfl ⟨?_, ?_, ⟨_, rfl⟩, fun v hv => by rw [u1] at hv; exact hv⟩
      · rw [mup_j _ _ (by decide), N2 _ _ (by omega), k0, u1]; rfl
      · rw [u1]
        refine ⟨HV.eq (fun x y h => hun x y (by omega)), HE.eq (fun x y h => hun x y (by omega)), HL.eq (fun x y h => hun x y (by omega)), ⟨?_, ?_, fun j hj => ?_⟩, HZ.eq (fun x y h => hun x y (by omega))⟩
        · rw [mup_s, List.length_append, hn]; rfl
        · rw [List.length_append, hn]; show n + 1 ≤ 8; omega
        · dsimp only
          rw [List.length_append, List.length_singleton, hn] at hj
          by_cases e : j = n
          · subst e
            have hg : (A.2.2.2.2.1 ++ [(A.2.2.1, A.2.2.2.1)]).getD j ([], []) = (A.2.2.1, A.2.2.2.1) := by rw [← hn]; exact getD_snoc
            rw [hg]
            refine ⟨by rw [h24]; exact k1, by rw [h24]; exact k2, fun i hi => ?_, fun i hi => ?_, l5, l6, l7, l8⟩
            · rw [h25 i (by dsimp only at hi; omega)]; exact l3 i hi
            · rw [show 10 * j + 5 + i = 10 * j + (5 + i) by omega, h25 (5 + i) (by dsimp only at hi; omega)]; exact l4 i hi
          · have hg : (A.2.2.2.2.1 ++ [(A.2.2.1, A.2.2.2.1)]).getD j ([], []) = A.2.2.2.2.1.getD j ([], []) := getD_snoc' (by omega)
            rw [hg]
            obtain ⟨x1, x2, x3, x4, x5, x6, x7⟩ := p3 j (by omega)
            exact ⟨(hun _ _ (by omega)).trans x1, (hun _ _ (by omega)).trans x2, fun i hi => (hun _ _ (by omega)).trans (x3 i hi), fun i hi => (hun _ _ (by omega)).trans (x4 i hi), x5, x6, x7⟩
    | succ j ih =>
      intro i μ2 hij N2 hq
      have n29 : μ2 0 29 = nI n := (N2 _ _ (by omega)).trans ((hS0 _ _ (by omega)).trans p1)
      refine mj_iload_n dMod_sample_65 rfl ?_
      refine mj_bipush (v := nI 10) dMod_sample_66 (by decide) ?_
      refine mj_icmp_ge (tgt := 97) dMod_sample_68 (by decide) (fun hc2 => ?_) (fun hc2 => ?_)
      · exact absurd hc2 (nI_ge (by omega) (by omega))
      refine mj_aload_n dMod_sample_71 rfl ?_
      refine mj_get dMod_sample_72 fg_Mod_83 rfl ?_
      refine mj_bipush (v := nI 10) dMod_sample_75 (by decide) ?_
      refine mj_aload_n dMod_sample_77 rfl ?_
      refine mj_get dMod_sample_78 fg_Mod_198 rfl ?_
      refine mj_imul dMod_sample_81 ?_
      rw [n29, show nI 10 * nI n = nI (10 * n) from pk_mul _ _]
      refine mj_iload_n dMod_sample_82 rfl ?_
      refine mj_iadd dMod_sample_83 ?_
      refine mj_aload_n dMod_sample_84 rfl ?_
      refine mj_get dMod_sample_85 fg_Mod_53 rfl ?_
      refine mj_iload_n dMod_sample_88 rfl ?_
      refine mj_iaload dMod_sample_89 (by decide) rfl (show _ < 10 by omega) (by decide) ?_
      rw [nI_add, N2 15 i (by omega), hS0 15 i (by omega)]
      refine mj_iastore dMod_sample_90 (by decide) rfl (show _ < 80 by omega) (by decide) ?_
      refine mj_iinc (L' := [_, _]) dMod_sample_91 rfl rfl (by decide) rfl ?_
      refine mj_goto (tgt := 65) dMod_sample_94 (by decide) ?_
      rw [show nI i + Int32.ofInt 1 = nI (i + 1) from nI_1 i]
      refine ih (i + 1) _ (by omega) (fun x y h => by rw [mup_ne _ _ (by omega)]; exact N2 x y h) (fun q hq9 => ?_)
      by_cases e : q = i
      · rw [e, mup_s]
      · rw [mup_j _ _ (by omega)]; exact hq q (by omega)
  exact loop 10 0 μ1 rfl (fun _ _ _ => rfl) (fun q hq => absurd hq (Nat.not_lt_zero _))
end MSET4
