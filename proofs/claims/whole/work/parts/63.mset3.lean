/-! The reference: entry, spell, type, wipe, length, result, sample. -/
def thr2 (o : xO) : Int32 := match o with
  | .inl _ => 0
  | .inr _ => 1
def mdEntry (A : xMA) (p n : Int32) : xO × xMA :=
  if ¬ (pt4 p = true ∧ (pt4 n = true ∨ n = -1)) then (.inr eA, A)
  else if A.2.1.length < 8 then (rI (nI A.2.1.length), (A.1, A.2.1 ++ [(p.toInt.toNat, if n = -1 then none else some n.toInt.toNat, [])], A.2.2.1, A.2.2.2.1, A.2.2.2.2.1, []))
  else (.inr eS, A)
def mdSpell (A : xMA) (e z : Int32) : xO × xMA :=
  if ¬ (0 ≤ e.toInt ∧ e.toInt < A.2.1.length ∧ sg1 z = true) then (.inr eA, A)
  else if (esg A.2.1 e.toInt.toNat).length < 3 then (rI (nI ((esg A.2.1 e.toInt.toNat).length + 1)), (A.1, esAdd A.2.1 e.toInt.toNat z.toInt.toNat, A.2.2.1, A.2.2.2.1, A.2.2.2.2.1, []))
  else (.inr eS, A)
def mdType (A : xMA) (up : Bool) (z : Int32) : xO × xMA :=
  if ¬ sg1 z = true then (.inr eA, A)
  else if up then (if A.2.2.2.1.length < 5 then (rI (nI (A.2.2.2.1.length + 1)), (A.1, A.2.1, A.2.2.1, A.2.2.2.1 ++ [z.toInt.toNat], A.2.2.2.2)) else (.inr eS, A))
  else (if A.2.2.1.length < 4 then (rI (nI (A.2.2.1.length + 1)), (A.1, A.2.1, A.2.2.1 ++ [z.toInt.toNat], A.2.2.2)) else (.inr eS, A))
def mdWipe (A : xMA) (up : Bool) : xO × xMA := if up then (rI (nI A.2.2.2.1.length), (A.1, A.2.1, A.2.2.1, [], A.2.2.2.2)) else (rI (nI A.2.2.1.length), (A.1, A.2.1, [], A.2.2.2))
def mdSample (A : xMA) : xO × xMA := if A.2.2.2.2.1.length < 8 then (rI (nI A.2.2.2.2.1.length), (A.1, A.2.1, A.2.2.1, A.2.2.2.1, A.2.2.2.2.1 ++ [(A.2.2.1, A.2.2.2.1)], A.2.2.2.2.2)) else (.inr eS, A)
def mdLen (A : xMA) (k : Int32) (b : Bool) : xO × xMA := if 0 ≤ k.toInt ∧ k.toInt < A.2.2.2.2.2.length then (rI (nI (rdig (A.2.2.2.2.2.getD k.toInt.toNat 0) (if b then 6 else 0))), A) else (.inr eO, A)
def mdRes (A : xMA) (k i : Int32) (b : Bool) : xO × xMA :=
  if 0 ≤ k.toInt ∧ k.toInt < A.2.2.2.2.2.length then (if 0 ≤ i.toInt ∧ i.toInt < rdig (A.2.2.2.2.2.getD k.toInt.toNat 0) (if b then 6 else 0) then (rI (nI (rdig (A.2.2.2.2.2.getD k.toInt.toNat 0) ((if b then 7 else 1) + i.toInt.toNat))), A) else (.inr eO, A)) else (.inr eO, A)
theorem VT.dig {k : Nat} (h : VT k) : dS k = rdig k 0 ∧ dC k = rdig k 6 ∧ (∀ i, i < dS k → dT k / 2 ^ (3 * (dS k - 1 - i)) % 8 = rdig k (1 + i)) ∧ ∀ i, i < dC k → dE k / 2 ^ (3 * (dC k - 1 - i)) % 8 = rdig k (7 + i) := by
  obtain ⟨b0, b1, b2, b3, b4, b5, b6, b7⟩ := h.b
  have p1 := pw_s b1 b6
  have p2 := pw_c b3 b7
  generalize dS k = s at *
  generalize dT k = t at *
  generalize dC k = c at *
  generalize dE k = e at *
  unfold kk at b5
  refine ⟨by unfold rdig; omega, by unfold rdig; omega, fun i hi => ?_, fun i hi => ?_⟩
  · have hs : s = 1 ∨ s = 2 ∨ s = 3 ∨ s = 4 ∨ s = 5 := by omega
    have hi5 : i = 0 ∨ i = 1 ∨ i = 2 ∨ i = 3 ∨ i = 4 := by omega
    unfold rdig
    rcases hs with rfl | rfl | rfl | rfl | rfl <;> rcases hi5 with rfl | rfl | rfl | rfl | rfl <;> first | omega | (simp at b5 p1 ⊢; omega)
  · have hs : c = 1 ∨ c = 2 ∨ c = 3 ∨ c = 4 := by omega
    have hi5 : i = 0 ∨ i = 1 ∨ i = 2 ∨ i = 3 := by omega
    unfold rdig
    rcases hs with rfl | rfl | rfl | rfl <;> rcases hi5 with rfl | rfl | rfl | rfl <;> first | omega | (simp at b5 p2 ⊢; omega)
section MSET3
variable {l : Launch} {G : xG} {d m : Nat} {μ : xMu} {A : xMA}
theorem c_Mod_entry {p n : Int32} (H : Rm μ A) : Mc l G mMod_entry d m [.ref m, .int p, .int n] μ (Ms thr1 (mdEntry A p n)) := by
  have H0 := H
  obtain ⟨HV, HE, HL, HP, HZ⟩ := H
  obtain ⟨e1, e2, e3, e4, e5, e6, e7⟩ := id HE
  have hm1 : n = -1 ↔ n.toInt = -1 := by rw [← Int32.toInt_inj]; exact Iff.rfl
  have rej : ∀ (c : Nat), (c = 1 ∨ c = 2) → nI c = thr1 (mdEntry A p n).1 → (mdEntry A p n).2 = A → (∀ v, (mdEntry A p n).1 ≠ .inl v) → Mj (l, G, d, m, Ms thr1 (mdEntry A p n)) mMod_entry 38 [some (.ref m), some (.int p), some (.int n)] [.int (nI c), .ref m] μ := by
    intro c hc12 h1 h2 h3
    refine mj_put dMod_entry_38 (fp_Mod_107 _) (by decide) ?_
    refine mj_aload_n dMod_entry_41 rfl ?_
    refine mj_get dMod_entry_42 fg_Mod_107 rfl ?_
    rw [mup_s]
    refine mj_if_eq (tgt := 50) dMod_entry_45 (by decide) (fun hcr => by rcases hc12 with rfl | rfl <;> exact absurd hcr (by decide)) (fun hcr => ?_)
    refine mj_iconst (v := nI 0) dMod_entry_48 (by decide) ?_
    exact mj_iret dMod_entry_49 rfl ⟨by rw [mup_s]; exact h1, by rw [h2]; exact H0.th, ⟨_, rfl⟩, fun v hv => absurd hv (h3 v)⟩
  have t20 : ¬ (0 ≤ p.toInt ∧ p.toInt < 4 ∧ -1 ≤ n.toInt ∧ n.toInt < 4) → Mj (l, G, d, m, Ms thr1 (mdEntry A p n)) mMod_entry 20 [some (.ref m), some (.int p), some (.int n)] [.ref m] μ := by
    intro hn
    have e : mdEntry A p n = (.inr eA, A) := by
      unfold mdEntry
      refine if_pos (fun z => hn ?_)
      have z1 : 0 ≤ p.toInt ∧ p.toInt < 4 := by simpa [pt4] using z.1
      rcases z.2 with z2 | z2
      · have z2 : 0 ≤ n.toInt ∧ n.toInt < 4 := by simpa [pt4] using z2
        omega
      · rw [hm1] at z2; omega
    refine mj_iconst (v := nI 1) dMod_entry_20 (by decide) ?_
    refine mj_goto (tgt := 38) dMod_entry_21 (by decide) ?_
    exact rej 1 (Or.inl rfl) (by rw [e]; rfl) (by rw [e]) (fun v z => by rw [e] at z; cases z)
  refine mc_of (L := [_, _, _]) (by decide) (Nat.le_of_ble_eq_true rfl) rfl ?_
  refine mj_aload_n dMod_entry_0 rfl ?_
  refine mj_iload_n dMod_entry_1 rfl ?_
  refine mj_if_lt (tgt := 20) dMod_entry_2 (by decide) (fun hc => ?_) (fun hc => ?_)
  · rw [lt0] at hc; exact t20 (by omega)
  rw [lt0] at hc
  refine mj_iload_n dMod_entry_5 rfl ?_
  refine mj_iconst (v := nI 3) dMod_entry_6 (by decide) ?_
  refine mj_icmp_gt (tgt := 20) dMod_entry_7 (by decide) (fun hc2 => ?_) (fun hc2 => ?_)
  · rw [Nlt (by omega)] at hc2; exact t20 (by omega)
  rw [Nlt (by omega)] at hc2
  refine mj_iload_n dMod_entry_10 rfl ?_
  refine mj_iconst (v := -1) dMod_entry_11 (by decide) ?_
  refine mj_icmp_lt (tgt := 20) dMod_entry_12 (by decide) (fun hc3 => ?_) (fun hc3 => ?_)
  · rw [Int32.lt_iff_toInt_lt] at hc3; have : (-1 : Int32).toInt = -1 := rfl; exact t20 (by omega)
  rw [Int32.lt_iff_toInt_lt] at hc3
  have hmm : (-1 : Int32).toInt = -1 := rfl
  refine mj_iload_n dMod_entry_15 rfl ?_
  refine mj_iconst (v := nI 3) dMod_entry_16 (by decide) ?_
  refine mj_icmp_le (tgt := 24) dMod_entry_17 (by decide) (fun hc4 => ?_) (fun hc4 => ?_)
  rotate_left
  · rw [Int32.le_iff_toInt_le, nI_toInt (by omega)] at hc4; exact t20 (by omega)
  rw [Int32.le_iff_toInt_le, nI_toInt (by omega)] at hc4
  have ep := iv_of (a := p) (by omega)
  have u1 : mdEntry A p n = (if A.2.1.length < 8 then (rI (nI A.2.1.length), (A.1, A.2.1 ++ [(p.toInt.toNat, if n = -1 then none else some n.toInt.toNat, [])], A.2.2.1, A.2.2.2.1, A.2.2.2.2.1, [])) else (.inr eS, A)) := by
    unfold mdEntry
    refine if_neg (fun z => z ⟨by simp [pt4]; omega, ?_⟩)
    by_cases q : n = -1
    · exact Or.inr q
    · left
      rw [hm1] at q
      simp [pt4]; omega
  have hnx : ∀ z, (if n = -1 then none else some n.toInt.toNat) = some z → z < 4 := by
    intro z hz
    by_cases q : n = -1
    · rw [if_pos q] at hz; cases hz
    · rw [if_neg q] at hz
      have := Option.some.inj hz
      omega
  have en : n = eN (if n = -1 then none else some n.toInt.toNat) := by
    by_cases q : n = -1
    · rw [if_pos q]; exact q
    · rw [if_neg q]
      rw [hm1] at q
      exact (iv_of (by omega)).1
  have hp4 : p.toInt.toNat < 4 := by omega
  generalize (if n = -1 then none else some n.toInt.toNat) = nx at *
  generalize p.toInt.toNat = i at *
  refine mj_aload_n dMod_entry_24 rfl ?_
  refine mj_get dMod_entry_25 fg_Mod_128 rfl ?_
  refine mj_bipush (v := nI 8) dMod_entry_28 (by decide) ?_
  rw [e1]
  refine mj_icmp_ne (tgt := 37) dMod_entry_30 (by decide) (fun hc5 => ?_) (fun hc5 => ?_)
  rotate_left
  · have h8 : A.2.1.length = 8 := (nI_eq (by omega) (by omega)).mp hc5
    rw [if_neg (by omega)] at u1
    refine mj_iconst (v := nI 2) dMod_entry_33 (by decide) ?_
    refine mj_goto (tgt := 38) dMod_entry_34 (by decide) ?_
    exact rej 2 (Or.inr rfl) (by rw [u1]; rfl) (by rw [u1]) (fun v z => by rw [u1] at z; cases z)
  have h8 : A.2.1.length < 8 := by
    have : A.2.1.length ≠ 8 := fun z => hc5 (by rw [z])
    omega
  rw [if_pos h8] at u1
  refine mj_iconst (v := nI 0) dMod_entry_37 (by decide) ?_
  refine mj_put dMod_entry_38 (fp_Mod_107 _) (by decide) ?_
  refine mj_aload_n dMod_entry_41 rfl ?_
  refine mj_get dMod_entry_42 fg_Mod_107 rfl ?_
  rw [mup_s]
  refine mj_if_eq (tgt := 50) dMod_entry_45 (by decide) (fun hca => ?_) (fun hca => absurd rfl hca)
  have g1 : mup μ 0 0 (nI 0) 0 12 = nI A.2.1.length := by rw [mup_j _ _ (by decide)]; exact e1
  refine mj_aload_n dMod_entry_50 rfl ?_
  refine mj_get dMod_entry_51 fg_Mod_38 rfl ?_
  refine mj_aload_n dMod_entry_54 rfl ?_
  refine mj_get dMod_entry_55 fg_Mod_128 rfl ?_
  refine mj_iload_n dMod_entry_58 rfl ?_
  refine mj_iastore dMod_entry_59 (by decide) g1 (show _ < 8 by omega) (by decide) ?_
  refine mj_aload_n dMod_entry_60 rfl ?_
  refine mj_get dMod_entry_61 fg_Mod_41 rfl ?_
  refine mj_aload_n dMod_entry_64 rfl ?_
  refine mj_get dMod_entry_65 fg_Mod_128 rfl ?_
  refine mj_iload_n dMod_entry_68 rfl ?_
  refine mj_iastore dMod_entry_69 (by decide) (by rw [mup_k _ _ (by decide)]; exact g1) (show _ < 8 by omega) (by decide) ?_
  refine mj_aload_n dMod_entry_70 rfl ?_
  refine mj_dup dMod_entry_71 rfl ?_
  refine mj_get dMod_entry_72 fg_Mod_128 rfl ?_
  refine mj_iconst (v := nI 1) dMod_entry_75 (by decide) ?_
  rw [show mup (mup (mup μ 0 0 (nI 0)) 10 A.2.1.length p) 11 A.2.1.length n 0 12 = nI A.2.1.length from by rw [mup_k _ _ (by decide), mup_k _ _ (by decide)]; exact g1]
  refine mj_iadd dMod_entry_76 ?_
  rw [show nI A.2.1.length + nI 1 = nI (A.2.1.length + 1) from nI_add _ _]
  refine mj_put dMod_entry_77 (fp_Mod_128 _) (by decide) ?_
  refine mj_aload_n dMod_entry_80 rfl ?_
  refine mj_iconst (v := nI 0) dMod_entry_81 (by decide) ?_
  refine mj_put dMod_entry_82 (fp_Mod_118 _) (by decide) ?_
  refine mj_aload_n dMod_entry_85 rfl ?_
  refine mj_get dMod_entry_86 fg_Mod_128 rfl ?_
  refine mj_iconst (v := nI 1) dMod_entry_89 (by decide) ?_
  rw [show mup (mup (mup (mup (mup μ 0 0 (nI 0)) 10 A.2.1.length p) 11 A.2.1.length n) 0 12 (nI (A.2.1.length + 1))) 0 19 (nI 0) 0 12 = nI (A.2.1.length + 1) from by rw [mup_j _ _ (by decide), mup_s]]
  refine mj_isub dMod_entry_90 ?_
  rw [show nI (A.2.1.length + 1) - nI 1 = nI A.2.1.length from pk_sub (a := A.2.1.length + 1) (b := 1) (by omega)]
  have hun : ∀ x y : Nat, ¬ ((x = 0 ∧ (y = 0 ∨ y = 12 ∨ y = 19)) ∨ x = 10 ∨ x = 11) → mup (mup (mup (mup (mup μ 0 0 (nI 0)) 10 A.2.1.length p) 11 A.2.1.length n) 0 12 (nI (A.2.1.length + 1))) 0 19 (nI 0) x y = μ x y := fun x y h => by
    rw [mup_ne _ _ (by omega), mup_ne _ _ (by omega), mup_ne _ _ (by omega), mup_ne _ _ (by omega), mup_ne _ _ (by omega)]
  have hsg : ∀ j, esg (A.2.1 ++ [(i, nx, [])]) j = esg A.2.1 j := fun j => by
    unfold esg
    by_cases e : j = A.2.1.length
    · subst e; rw [getD_snoc, getD_len (Nat.le_refl _)]
    · rw [getD_snoc' e]
  refine mj_iret dMod_entry_91 rfl ⟨?_, ?_, ⟨_, rfl⟩, fun v hv => by rw [u1] at hv; exact hv⟩
  · rw [mup_j _ _ (by decide), mup_j _ _ (by decide), mup_k _ _ (by decide), mup_k _ _ (by decide), mup_s, u1]; rfl
  · rw [u1]
    refine ⟨HV.eq (fun x y h => hun x y (by omega)), ⟨?_, by simp; omega, fun j hj => ?_, fun j hj => ?_, fun j hj k hk => ?_, fun j => ?_, fun z hz => ?_⟩, HL.eq (fun x y h => hun x y (by omega)), HP.eq (fun x y h => hun x y (by omega)), Rz.nil (mup_s _ _ _ _)⟩
    · rw [mup_j _ _ (by decide), mup_s, List.length_append]; rfl
    · dsimp only
      by_cases e : j = A.2.1.length
      · subst e
        rw [getD_snoc]
        exact ⟨by rw [mup_k _ _ (by decide), mup_k _ _ (by decide), mup_k _ _ (by decide), mup_s]; exact ep.1, by rw [mup_k _ _ (by decide), mup_k _ _ (by decide), mup_s]; exact en⟩
      · have hj' : j < A.2.1.length := by rw [List.length_append, List.length_singleton] at hj; omega
        rw [getD_snoc' e]
        exact ⟨by rw [mup_k _ _ (by decide), mup_k _ _ (by decide), mup_k _ _ (by decide), mup_j _ _ e, mup_k _ _ (by decide)]; exact (e3 j hj').1, by rw [mup_k _ _ (by decide), mup_k _ _ (by decide), mup_j _ _ e, mup_k _ _ (by decide), mup_k _ _ (by decide)]; exact (e3 j hj').2⟩
    · dsimp only; rw [hsg]; exact (hun _ _ (by omega)).trans (e4 j hj)
    · dsimp only at hk ⊢; rw [hsg] at hk ⊢; exact (hun _ _ (by omega)).trans (e5 j hj k hk)
    · dsimp only; rw [hsg]; exact e6 j
    · rcases List.mem_append.mp hz with z1 | z1
      · exact e7 z z1
      · rw [List.mem_singleton.mp z1]; exact ⟨hp4, hnx, fun i => by simp⟩
theorem sg1_no (x : Int32) : decide (x.toInt < (nI 1).toInt ∨ 7 < x.toInt) = !(sg1 x) := by
  have h0 : (nI 1).toInt = 1 := rfl
  unfold sg1
  by_cases q : 0 < x.toInt ∧ x.toInt ≤ 7
  · rw [decide_eq_true q, decide_eq_false (by omega)]; rfl
  · rw [decide_eq_false q, decide_eq_true (by omega)]; rfl
theorem c_Mod_spell {e z : Int32} (H : Rm μ A) : Mc l G mMod_spell (d + 1) m [.ref m, .int e, .int z] μ (Ms thr1 (mdSpell A e z)) := by
  have H0 := H
  obtain ⟨HV, HE, HL, HP, HZ⟩ := H
  obtain ⟨e1, e2, e3, e4, e5, e6, e7⟩ := id HE
  have rej : ∀ (c : Nat), (c = 1 ∨ c = 2) → nI c = thr1 (mdSpell A e z).1 → (mdSpell A e z).2 = A → (∀ v, (mdSpell A e z).1 ≠ .inl v) → Mj (l, G, d + 1, m, Ms thr1 (mdSpell A e z)) mMod_spell 41 [some (.ref m), some (.int e), some (.int z)] [.int (nI c), .ref m] μ := by
    intro c hc12 h1 h2 h3
    refine mj_put dMod_spell_41 (fp_Mod_107 _) (by decide) ?_
    refine mj_aload_n dMod_spell_44 rfl ?_
    refine mj_get dMod_spell_45 fg_Mod_107 rfl ?_
    rw [mup_s]
    refine mj_if_eq (tgt := 53) dMod_spell_48 (by decide) (fun hcr => by rcases hc12 with rfl | rfl <;> exact absurd hcr (by decide)) (fun hcr => ?_)
    refine mj_iconst (v := nI 0) dMod_spell_51 (by decide) ?_
    exact mj_iret dMod_spell_52 rfl ⟨by rw [mup_s]; exact h1, by rw [h2]; exact H0.th, ⟨_, rfl⟩, fun v hv => absurd hv (h3 v)⟩
  have t22 : ¬ (0 ≤ e.toInt ∧ e.toInt < A.2.1.length ∧ sg1 z = true) → Mj (l, G, d + 1, m, Ms thr1 (mdSpell A e z)) mMod_spell 22 [some (.ref m), some (.int e), some (.int z)] [.ref m] μ := by
    intro hn
    have e : mdSpell A e z = (.inr eA, A) := by unfold mdSpell; rw [if_pos hn]
    refine mj_iconst (v := nI 1) dMod_spell_22 (by decide) ?_
    refine mj_goto (tgt := 41) dMod_spell_23 (by decide) ?_
    exact rej 1 (Or.inl rfl) (by rw [e]; rfl) (by rw [e]) (fun v z => by rw [e] at z; cases z)
  refine mc_of (L := [_, _, _]) (by decide) (Nat.le_of_ble_eq_true rfl) rfl ?_
  refine mj_aload_n dMod_spell_0 rfl ?_
  refine mj_iload_n dMod_spell_1 rfl ?_
  refine mj_if_lt (tgt := 22) dMod_spell_2 (by decide) (fun hc => ?_) (fun hc => ?_)
  · rw [lt0] at hc; exact t22 (by omega)
  rw [lt0] at hc
  refine mj_iload_n dMod_spell_5 rfl ?_
  refine mj_aload_n dMod_spell_6 rfl ?_
  refine mj_get dMod_spell_7 fg_Mod_128 rfl ?_
  rw [e1]
  refine mj_icmp_ge (tgt := 22) dMod_spell_10 (by decide) (fun hc2 => ?_) (fun hc2 => ?_)
  · rw [Nle (by omega)] at hc2; exact t22 (by omega)
  rw [Nle (by omega)] at hc2
  refine mj_aload_n dMod_spell_13 rfl ?_
  refine mj_iload_n dMod_spell_14 rfl ?_
  refine mj_iconst (v := nI 1) dMod_spell_15 (by decide) ?_
  refine mj_p2 dMod_spell_16 ip_Mod_111 cd_Mod_noSign ar_Mod_noSign (c_Mod_noSign (d := d) (a := z) (b := nI 1)) (by dsimp only; omega) (Nat.le_of_ble_eq_true rfl) (fun E m9 q9 => by simp at q9) (fun v9 μ9 hq => ?_)
  obtain ⟨e0, e1'⟩ := hq
  cases e0
  rw [e1', sg1_no]
  refine mj_if_eq (tgt := 26) dMod_spell_19 (by decide) (fun hc3 => ?_) (fun hc3 => ?_)
  rotate_left
  · have q := bI_1 hc3
    exact t22 (fun y => by rw [y.2.2] at q; cases q)
  have hz : sg1 z = true := by have := bI_0.mp hc3; simpa using this
  have hz' : 0 < z.toInt ∧ z.toInt ≤ 7 := by simpa [sg1] using hz
  have ez := iv_of (a := z) (by omega)
  have ee := iv_of (a := e) (by omega)
  have hz8 : z.toInt.toNat < 8 := by omega
  have hel : e.toInt.toNat < A.2.1.length := by omega
  have u1 : mdSpell A e z = (if (esg A.2.1 e.toInt.toNat).length < 3 then (rI (nI ((esg A.2.1 e.toInt.toNat).length + 1)), (A.1, esAdd A.2.1 e.toInt.toNat z.toInt.toNat, A.2.2.1, A.2.2.2.1, A.2.2.2.2.1, [])) else (.inr eS, A)) := by unfold mdSpell; rw [if_neg (fun y => y ⟨by omega, by omega, hz⟩)]
  generalize z.toInt.toNat = k at *
  generalize e.toInt.toNat = i at *
  have e4i := e4 i (by omega)
  have e6i := e6 i
  refine mj_aload_n dMod_spell_26 rfl ?_
  refine mj_get dMod_spell_27 fg_Mod_44 rfl ?_
  refine mj_iload_n dMod_spell_30 rfl ?_
  refine mj_iaload dMod_spell_31 (by decide) ee.1 (show _ < 8 by omega) (by decide) ?_
  refine mj_iconst (v := nI 3) dMod_spell_32 (by decide) ?_
  rw [e4i]
  refine mj_icmp_ne (tgt := 40) dMod_spell_33 (by decide) (fun hc5 => ?_) (fun hc5 => ?_)
  rotate_left
  · have h8 : (esg A.2.1 i).length = 3 := (nI_eq (by omega) (by omega)).mp hc5
    rw [if_neg (by omega)] at u1
    refine mj_iconst (v := nI 2) dMod_spell_36 (by decide) ?_
    refine mj_goto (tgt := 41) dMod_spell_37 (by decide) ?_
    exact rej 2 (Or.inr rfl) (by rw [u1]; rfl) (by rw [u1]) (fun v z => by rw [u1] at z; cases z)
  have h8 : (esg A.2.1 i).length < 3 := by
    have : (esg A.2.1 i).length ≠ 3 := fun z => hc5 (by rw [z])
    omega
  rw [if_pos h8] at u1
  refine mj_iconst (v := nI 0) dMod_spell_40 (by decide) ?_
  refine mj_put dMod_spell_41 (fp_Mod_107 _) (by decide) ?_
  refine mj_aload_n dMod_spell_44 rfl ?_
  refine mj_get dMod_spell_45 fg_Mod_107 rfl ?_
  rw [mup_s]
  refine mj_if_eq (tgt := 53) dMod_spell_48 (by decide) (fun hca => ?_) (fun hca => absurd rfl hca)
  have g1 : mup μ 0 0 (nI 0) 12 i = nI (esg A.2.1 i).length := by rw [mup_k _ _ (by decide)]; exact e4i
  refine mj_aload_n dMod_spell_53 rfl ?_
  refine mj_get dMod_spell_54 fg_Mod_47 rfl ?_
  refine mj_iconst (v := nI 3) dMod_spell_57 (by decide) ?_
  refine mj_iload_n dMod_spell_58 rfl ?_
  refine mj_imul dMod_spell_59 ?_
  refine mj_aload_n dMod_spell_60 rfl ?_
  refine mj_get dMod_spell_61 fg_Mod_44 rfl ?_
  refine mj_iload_n dMod_spell_64 rfl ?_
  refine mj_iaload dMod_spell_65 (by decide) ee.1 (show _ < 8 by omega) (by decide) ?_
  rw [g1]
  refine mj_iadd dMod_spell_66 ?_
  rw [show (nI 3 * e : Int32) = nI (3 * i) from by rw [ee.1]; exact pk_mul _ _, nI_add]
  refine mj_iload_n dMod_spell_67 rfl ?_
  refine mj_iastore dMod_spell_68 (by decide) rfl (show _ < 24 by omega) (by decide) ?_
  refine mj_aload_n dMod_spell_69 rfl ?_
  refine mj_get dMod_spell_70 fg_Mod_44 rfl ?_
  refine mj_iload_n dMod_spell_73 rfl ?_
  refine mj_dup2 dMod_spell_74 rfl rfl ?_
  refine mj_iaload dMod_spell_75 (by decide) ee.1 (show _ < 8 by omega) (by decide) ?_
  rw [show mup (mup μ 0 0 (nI 0)) 13 (3 * i + (esg A.2.1 i).length) z 12 i = nI (esg A.2.1 i).length from by rw [mup_k _ _ (by decide)]; exact g1]
  refine mj_iconst (v := nI 1) dMod_spell_76 (by decide) ?_
  refine mj_iadd dMod_spell_77 ?_
  rw [show nI (esg A.2.1 i).length + nI 1 = nI ((esg A.2.1 i).length + 1) from nI_add _ _]
  refine mj_iastore dMod_spell_78 (by decide) ee.1 (show _ < 8 by omega) (by decide) ?_
  refine mj_aload_n dMod_spell_79 rfl ?_
  refine mj_iconst (v := nI 0) dMod_spell_80 (by decide) ?_
  refine mj_put dMod_spell_81 (fp_Mod_118 _) (by decide) ?_
  refine mj_aload_n dMod_spell_84 rfl ?_
  refine mj_get dMod_spell_85 fg_Mod_44 rfl ?_
  refine mj_iload_n dMod_spell_88 rfl ?_
  refine mj_iaload dMod_spell_89 (by decide) ee.1 (show _ < 8 by omega) (by decide) ?_
  rw [show mup (mup (mup (mup μ 0 0 (nI 0)) 13 (3 * i + (esg A.2.1 i).length) z) 12 i (nI ((esg A.2.1 i).length + 1))) 0 19 (nI 0) 12 i = nI ((esg A.2.1 i).length + 1) from by rw [mup_k _ _ (by decide), mup_s]]
  have hun : ∀ x y : Nat, ¬ ((x = 0 ∧ (y = 0 ∨ y = 19)) ∨ x = 12 ∨ x = 13) → mup (mup (mup (mup μ 0 0 (nI 0)) 13 (3 * i + (esg A.2.1 i).length) z) 12 i (nI ((esg A.2.1 i).length + 1))) 0 19 (nI 0) x y = μ x y := fun x y h => by
    rw [mup_ne _ _ (by omega), mup_ne _ _ (by omega), mup_ne _ _ (by omega), mup_ne _ _ (by omega)]
  have hsg : ∀ j, esg (esAdd A.2.1 i k) j = if j = i then esg A.2.1 i ++ [k] else esg A.2.1 j := fun j => by
    unfold esg esAdd
    rw [getD_set hel]
    by_cases y : j = i
    · rw [if_pos y, if_pos y]
    · rw [if_neg y, if_neg y]
  have hpr : ∀ j, ((esAdd A.2.1 i k).getD j en0).1 = (A.2.1.getD j en0).1 ∧ ((esAdd A.2.1 i k).getD j en0).2.1 = (A.2.1.getD j en0).2.1 := fun j => by
    unfold esAdd
    rw [getD_set hel]
    by_cases y : j = i
    · rw [if_pos y, y]; exact ⟨rfl, rfl⟩
    · rw [if_neg y]; exact ⟨rfl, rfl⟩
  have hlen : (esAdd A.2.1 i k).length = A.2.1.length := by unfold esAdd; rw [List.length_set]
  refine mj_iret dMod_spell_90 rfl ⟨?_, ?_, ⟨_, rfl⟩, fun v hv => by rw [u1] at hv; exact hv⟩
  · rw [mup_j _ _ (by decide), mup_k _ _ (by decide), mup_k _ _ (by decide), mup_s, u1]; rfl
  · rw [u1]
    refine ⟨HV.eq (fun x y h => hun x y (by omega)), ⟨?_, ?_, fun j hj => ?_, fun j hj => ?_, fun j hj k2 hk => ?_, fun j => ?_, fun y hy => ?_⟩, HL.eq (fun x y h => hun x y (by omega)), HP.eq (fun x y h => hun x y (by omega)), Rz.nil (mup_s _ _ _ _)⟩
    · dsimp only; rw [hlen]; exact (hun _ _ (by omega)).trans e1
    · dsimp only; rw [hlen]; exact e2
    · dsimp only at hj ⊢; rw [hlen] at hj; rw [(hpr j).1, (hpr j).2]; exact ⟨(hun _ _ (by omega)).trans (e3 j hj).1, (hun _ _ (by omega)).trans (e3 j hj).2⟩
    · dsimp only
      rw [hsg, mup_k _ _ (by decide)]
      by_cases y : j = i
      · rw [if_pos y, y, mup_s, List.length_append]; rfl
      · rw [if_neg y, mup_j _ _ y, mup_k _ _ (by decide), mup_k _ _ (by decide)]; exact e4 j hj
    · dsimp only at hk ⊢
      rw [hsg] at hk ⊢
      rw [mup_k _ _ (by decide), mup_k _ _ (by decide)]
      by_cases y : j = i
      · rw [if_pos y] at hk ⊢
        subst y
        by_cases y2 : k2 = (esg A.2.1 j).length
        · subst y2; rw [mup_s, getD_snoc]; exact ez.1
        · rw [mup_j _ _ (by omega), getD_snoc' y2, mup_k _ _ (by decide)]
          exact e5 j hj k2 (by rw [List.length_append, List.length_singleton] at hk; omega)
      · rw [if_neg y] at hk ⊢
        have := e6 j
        rw [mup_j _ _ (by omega), mup_k _ _ (by decide)]; exact e5 j hj k2 hk
    · dsimp only
      rw [hsg]
      by_cases y : j = i
      · rw [if_pos y, List.length_append]; show _ + 1 ≤ 3; omega
      · rw [if_neg y]; exact e6 j
    · have hq0 := e7 _ (getD_mem (d := en0) hel)
      rcases List.mem_or_eq_of_mem_set hy with y1 | y1
      · exact e7 y y1
      · rw [y1]; exact ⟨hq0.1, hq0.2.1, snoc_lt hq0.2.2 hz8⟩
end MSET3
