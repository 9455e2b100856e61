/-! The reference: take, doBelong, belong, blame, check. -/
def belB (V : xV) (w u : List Nat) : Bool := (post V w u true 10 []).any (keepsB V)
def Pe (μ μ' : xMu) : Prop := ∀ a b : Nat, (a = 0 ∧ (b = 1 ∨ b = 4 ∨ b = 12 ∨ b = 19 ∨ b = 29)) ∨ (1 ≤ a ∧ a ≤ 19) ∨ a = 24 ∨ a = 25 → μ' a b = μ a b
theorem Pe.rf {μ : xMu} : Pe μ μ := fun _ _ _ => rfl
theorem Pe.trans {μ μ1 μ2 : xMu} (a : Pe μ μ1) (b : Pe μ1 μ2) : Pe μ μ2 := fun x y h => (b x y h).trans (a x y h)
theorem Pe.ss {μ μ1 : xMu} (a : Ss μ μ1) : Pe μ μ1 := fun x y h => a x y (by omega)
theorem Pe.up {μ μ1 : xMu} {k j : Nat} {v : Int32} (a : Pe μ μ1) (h : ¬ ((k = 0 ∧ (j = 1 ∨ j = 4 ∨ j = 12 ∨ j = 19 ∨ j = 29)) ∨ (1 ≤ k ∧ k ≤ 19) ∨ k = 24 ∨ k = 25)) : Pe μ (mup μ1 k j v) := fun x y hn => by
  rw [mup_ne _ _ (by
    by_cases e : x = k
    · by_cases e2 : y = j
      · rw [e, e2] at hn; exact absurd hn h
      · exact Or.inr e2
    · exact Or.inl e)]
  exact a x y hn
theorem Rv.pe {μ μ' : xMu} {V : xV} (H : Rv μ V) (e : Pe μ μ') : Rv μ' V := H.eq (fun a b h => e a b (by omega))
/-- memory but the two forms of a search -/
def Tk (μ μ' : xMu) : Prop := ∀ a b : Nat, ¬ ((a = 0 ∧ (b = 32 ∨ b = 34)) ∨ a = 26 ∨ a = 27) → μ' a b = μ a b
theorem Tk.rf {μ : xMu} : Tk μ μ := fun _ _ _ => rfl
theorem Tk.up {μ μ1 : xMu} {k j : Nat} {v : Int32} (a : Tk μ μ1) (h : (k = 0 ∧ (j = 32 ∨ j = 34)) ∨ k = 26 ∨ k = 27) : Tk μ (mup μ1 k j v) := fun x y hn => by
  rw [mup_ne _ _ (by
    by_cases e : x = k
    · by_cases e2 : y = j
      · exact absurd (by rw [e, e2]; exact h) hn
      · exact Or.inr e2
    · exact Or.inl e)]
  exact a x y hn
theorem Tk.pe {μ μ1 : xMu} (a : Tk μ μ1) : Pe μ μ1 := fun x y h => a x y (by omega)
/-- the two lines -/
def Rl (μ : xMu) (w u : List Nat) : Prop := μ 14 0 = nI w.length ∧ μ 14 1 = nI u.length ∧ (∀ i, i < w.length → μ 15 i = nI (w.getD i 0)) ∧ (∀ i, i < u.length → μ 15 (5 + i) = nI (u.getD i 0)) ∧ w.length ≤ 4 ∧ u.length ≤ 5 ∧ (∀ i, w.getD i 0 < 8) ∧ ∀ i, u.getD i 0 < 8
theorem Rl.pe {μ μ' : xMu} {w u : List Nat} (H : Rl μ w u) (e : Pe μ μ') : Rl μ' w u := by
  obtain ⟨h1, h2, h3, h4, h5⟩ := H
  exact ⟨(e _ _ (by omega)).trans h1, (e _ _ (by omega)).trans h2, fun i hi => (e _ _ (by omega)).trans (h3 i hi), fun i hi => (e _ _ (by omega)).trans (h4 i hi), h5⟩
/-- the samples -/
def Rp (μ : xMu) (ss : List (List Nat × List Nat)) : Prop := μ 0 29 = nI ss.length ∧ ss.length ≤ 8 ∧ ∀ j, j < ss.length → μ 24 (2 * j) = nI (ss.getD j ([], [])).1.length ∧ μ 24 (2 * j + 1) = nI (ss.getD j ([], [])).2.length ∧ (∀ i, i < (ss.getD j ([], [])).1.length → μ 25 (10 * j + i) = nI ((ss.getD j ([], [])).1.getD i 0)) ∧ (∀ i, i < (ss.getD j ([], [])).2.length → μ 25 (10 * j + 5 + i) = nI ((ss.getD j ([], [])).2.getD i 0)) ∧ (ss.getD j ([], [])).1.length ≤ 4 ∧ (ss.getD j ([], [])).2.length ≤ 5 ∧ (∀ i, (ss.getD j ([], [])).1.getD i 0 < 8) ∧ ∀ i, (ss.getD j ([], [])).2.getD i 0 < 8
theorem Rp.pe {μ μ' : xMu} {ss : List (List Nat × List Nat)} (H : Rp μ ss) (e : Pe μ μ') : Rp μ' ss := by
  obtain ⟨h1, h2, h3⟩ := H
  refine ⟨(e _ _ (by omega)).trans h1, h2, fun j hj => ?_⟩
  obtain ⟨k1, k2, k3, k4, k5⟩ := h3 j hj
  exact ⟨(e _ _ (by omega)).trans k1, (e _ _ (by omega)).trans k2, fun i hi => (e _ _ (by omega)).trans (k3 i hi), fun i hi => (e _ _ (by omega)).trans (k4 i hi), k5⟩
theorem rest_root (V : xV) (w u : List Nat) (gv : Bool) : restR V w u gv ([] : List Nat).reverse 0 = post V w u gv 10 [] := by rw [post_eq]; rfl
section MBEL
variable {l : Launch} {G : xG} {d m : Nat} {μ : xMu} {V : xV} {w u : List Nat}
theorem c_Mod_take {k a b : Nat} (hk : k = 15 ∨ k = 25) (ha : a + w.length ≤ mlen k) (hb : b + u.length ≤ mlen k) (h4 : w.length ≤ 4) (h5 : u.length ≤ 5) (hw8 : ∀ i, w.getD i 0 < 8) (hu8 : ∀ i, u.getD i 0 < 8) (hw : ∀ i, i < w.length → μ k (a + i) = nI (w.getD i 0)) (hu : ∀ i, i < u.length → μ k (b + i) = nI (u.getD i 0)) : Mc l G mMod_take d m [.ref m, .ref (m + k), .int (nI a), .int (nI w.length), .int (nI b), .int (nI u.length)] μ (fun o μ' => o = .inl none ∧ Rw μ' w u ∧ Tk μ μ') := by
  have hkk : 1 ≤ k ∧ k ≤ 32 ∧ mknd k = 0 := by rcases hk with rfl | rfl <;> decide
  have hkl : mlen k ≤ 80 := by rcases hk with rfl | rfl <;> decide
  have loop2 : ∀ (j i : Nat) (μ1 : xMu), i + j = u.length → Tk μ μ1 → μ1 0 32 = nI w.length → μ1 0 34 = nI u.length → (∀ i, i < w.length → μ1 26 i = nI (w.getD i 0)) → (∀ q, q < i → μ1 27 q = nI (u.getD q 0)) → Mj (l, G, d, m, fun o μ' => o = .inl none ∧ Rw μ' w u ∧ Tk μ μ') mMod_take 42 [some (.ref m), some (.ref (m + k)), some (.int (nI a)), some (.int (nI w.length)), some (.int (nI b)), some (.int (nI u.length)), some (.int (nI i))] [] μ1 := by
    intro j
    induction j with
    | zero =>
      intro i μ1 hij T e1 e2 e3 e4
      refine mj_iload dMod_take_42 rfl ?_
      refine mj_iload dMod_take_44 rfl ?_
      refine mj_icmp_ge (tgt := 69) dMod_take_46 (by decide) (fun hc => ?_) (fun hc => ?_)
      · exact mj_vret dMod_take_69 rfl ⟨rfl, ⟨e1, e2, e3, fun q hq => e4 q (by omega), h4, h5, hw8, hu8⟩, T⟩
      · exact absurd (nI_le (by omega) (by omega)) hc
    | succ j ih =>
      intro i μ1 hij T e1 e2 e3 e4
      refine mj_iload dMod_take_42 rfl ?_
      refine mj_iload dMod_take_44 rfl ?_
      refine mj_icmp_ge (tgt := 69) dMod_take_46 (by decide) (fun hc => ?_) (fun hc => ?_)
      · exact absurd hc (nI_ge (by omega) (by omega))
      refine mj_aload_n dMod_take_49 rfl ?_
      refine mj_get dMod_take_50 fg_Mod_89 rfl ?_
      refine mj_iload dMod_take_53 rfl ?_
      refine mj_aload_n dMod_take_55 rfl ?_
      refine mj_iload dMod_take_56 rfl ?_
      refine mj_iload dMod_take_58 rfl ?_
      refine mj_iadd dMod_take_60 ?_
      rw [nI_add]
      refine mj_iaload dMod_take_61 hkk rfl (show _ < mlen k by omega) (by omega) ?_
      rw [T _ _ (by omega), hu i (by omega)]
      refine mj_iastore dMod_take_62 (by decide) rfl (show _ < 5 by omega) (by decide) ?_
      refine mj_iinc (L' := [_, _, _, _, _, _, _]) dMod_take_63 rfl rfl (by decide) rfl ?_
      refine mj_goto (tgt := 42) dMod_take_66 (by decide) ?_
      rw [show nI i + Int32.ofInt 1 = nI (i + 1) from nI_1 i]
      refine ih (i + 1) _ (by omega) (T.up (by omega)) (by rw [mup_k _ _ (by decide)]; exact e1) (by rw [mup_k _ _ (by decide)]; exact e2) (fun q hq => by rw [mup_k _ _ (by decide)]; exact e3 q hq) (fun q hq => ?_)
      by_cases e : q = i
      · rw [e, mup_s]
      · rw [mup_j _ _ e]; exact e4 q (by omega)
  have loop1 : ∀ (j i : Nat) (μ1 : xMu), i + j = w.length → Tk μ μ1 → μ1 0 32 = nI w.length → (∀ q, q < i → μ1 26 q = nI (w.getD q 0)) → Mj (l, G, d, m, fun o μ' => o = .inl none ∧ Rw μ' w u ∧ Tk μ μ') mMod_take 8 [some (.ref m), some (.ref (m + k)), some (.int (nI a)), some (.int (nI w.length)), some (.int (nI b)), some (.int (nI u.length)), some (.int (nI i))] [] μ1 := by
    intro j
    induction j with
    | zero =>
      intro i μ1 hij T e1 e3
      refine mj_iload dMod_take_8 rfl ?_
      refine mj_iload_n dMod_take_10 rfl ?_
      refine mj_icmp_ge (tgt := 33) dMod_take_11 (by decide) (fun hc => ?_) (fun hc => ?_)
      · refine mj_aload_n dMod_take_33 rfl ?_
        refine mj_iload dMod_take_34 rfl ?_
        refine mj_put dMod_take_36 (fp_Mod_156 _) (by decide) ?_
        refine mj_iconst (v := nI 0) dMod_take_39 (by decide) ?_
        refine mj_istore (L' := [_, _, _, _, _, _, _]) dMod_take_40 (by decide) rfl ?_
        exact loop2 u.length 0 _ (by omega) (T.up (by omega)) (by rw [mup_j _ _ (by decide)]; exact e1) (mup_s _ _ _ _) (fun q hq => by rw [mup_k _ _ (by decide)]; exact e3 q (by omega)) (fun q hq => absurd hq (Nat.not_lt_zero _))
      · exact absurd (nI_le (by omega) (by omega)) hc
    | succ j ih =>
      intro i μ1 hij T e1 e3
      refine mj_iload dMod_take_8 rfl ?_
      refine mj_iload_n dMod_take_10 rfl ?_
      refine mj_icmp_ge (tgt := 33) dMod_take_11 (by decide) (fun hc => ?_) (fun hc => ?_)
      · exact absurd hc (nI_ge (by omega) (by omega))
      refine mj_aload_n dMod_take_14 rfl ?_
      refine mj_get dMod_take_15 fg_Mod_86 rfl ?_
      refine mj_iload dMod_take_18 rfl ?_
      refine mj_aload_n dMod_take_20 rfl ?_
      refine mj_iload_n dMod_take_21 rfl ?_
      refine mj_iload dMod_take_22 rfl ?_
      refine mj_iadd dMod_take_24 ?_
      rw [nI_add]
      refine mj_iaload dMod_take_25 hkk rfl (show _ < mlen k by omega) (by omega) ?_
      rw [T _ _ (by omega), hw i (by omega)]
      refine mj_iastore dMod_take_26 (by decide) rfl (show _ < 4 by omega) (by decide) ?_
      refine mj_iinc (L' := [_, _, _, _, _, _, _]) dMod_take_27 rfl rfl (by decide) rfl ?_
      refine mj_goto (tgt := 8) dMod_take_30 (by decide) ?_
      rw [show nI i + Int32.ofInt 1 = nI (i + 1) from nI_1 i]
      refine ih (i + 1) _ (by omega) (T.up (by omega)) (by rw [mup_k _ _ (by decide)]; exact e1) (fun q hq => ?_)
      by_cases e : q = i
      · rw [e, mup_s]
      · rw [mup_j _ _ e]; exact e3 q (by omega)
  refine mc_of (L := [_, _, _, _, _, _, _]) (by decide) (Nat.le_of_ble_eq_true rfl) rfl ?_
  refine mj_aload_n dMod_take_0 rfl ?_
  refine mj_iload_n dMod_take_1 rfl ?_
  refine mj_put dMod_take_2 (fp_Mod_153 _) (by decide) ?_
  refine mj_iconst (v := nI 0) dMod_take_5 (by decide) ?_
  refine mj_istore (L' := [_, _, _, _, _, _, _]) dMod_take_6 (by decide) rfl ?_
  exact loop1 w.length 0 _ (by omega) (Tk.rf.up (by omega)) (mup_s _ _ _ _) (fun q hq => absurd hq (Nat.not_lt_zero _))
theorem c_Mod_doBelong (HV : Rv μ V) (HW : Rw μ w u) : Mc l G mMod_doBelong (d + 7) m [.ref m] μ (fun o μ' => o = rI (bI (belB V w u)) ∧ Ss μ μ') := by
  have loop : ∀ (ρ : List (List Nat)) (row : List Nat) (t : Nat) (μ1 : xMu), Ss μ μ1 → Sk μ1 V row t → VDs V w row → restR V w u true row.reverse t = ρ → ρ.any (keepsB V) = belB V w u → Mj (l, G, d + 7, m, fun o μ' => o = rI (bI (belB V w u)) ∧ Ss μ μ') mMod_doBelong 4 [some (.ref m)] [] μ1 := by
    intro ρ
    induction ρ with
    | nil =>
      intro row t μ1 SS SK VD hr hb
      refine mj_aload_n dMod_doBelong_4 rfl ?_
      refine mj_iconst (v := nI 1) dMod_doBelong_5 (by decide) ?_
      refine mj_p1 dMod_doBelong_6 ip_Mod_166 cd_Mod_nextAlignment ar_Mod_nextAlignment (c_Mod_next (d := d) (gv := true) (HV.ss SS) (HW.ss SS) SK VD hr) (by dsimp only; omega) (Nat.le_of_ble_eq_true rfl) (fun E m9 q9 => by obtain ⟨-, q9⟩ := q9; unfold Nx at q9; split at q9 <;> simp at q9) (fun v9 μ9 hq => ?_)
      obtain ⟨S2, N2⟩ := hq
      have N2 : _ = rI (bI false) := N2
      cases N2
      refine mj_if_eq (tgt := 21) dMod_doBelong_9 (by decide) (fun hc => ?_) (fun hc => ?_)
      · refine mj_iconst (v := nI 0) dMod_doBelong_21 (by decide) ?_
        exact mj_zret dMod_doBelong_22 rfl (by decide) ⟨by rw [← hb]; rfl, SS.trans S2⟩
      · exact absurd rfl hc
    | cons a more ih =>
      intro row t μ1 SS SK VD hr hb
      refine mj_aload_n dMod_doBelong_4 rfl ?_
      refine mj_iconst (v := nI 1) dMod_doBelong_5 (by decide) ?_
      refine mj_p1 dMod_doBelong_6 ip_Mod_166 cd_Mod_nextAlignment ar_Mod_nextAlignment (c_Mod_next (d := d) (gv := true) (HV.ss SS) (HW.ss SS) SK VD hr) (by dsimp only; omega) (Nat.le_of_ble_eq_true rfl) (fun E m9 q9 => by obtain ⟨-, q9⟩ := q9; unfold Nx at q9; split at q9 <;> simp at q9) (fun v9 μ9 hq => ?_)
      obtain ⟨S2, N2, SK2, VD2, hr2⟩ := hq
      cases N2
      have SS2 := SS.trans S2
      rw [List.any_cons] at hb
      refine mj_if_eq (tgt := 21) dMod_doBelong_9 (by decide) (fun hc => ?_) (fun hc => ?_)
      · exact absurd hc (by decide)
      refine mj_aload_n dMod_doBelong_12 rfl ?_
      refine mj_p0 dMod_doBelong_13 ip_Mod_170 cd_Mod_keepsAll ar_Mod_keepsAll (c_Mod_keepsAll (d := d) (HV.ss SS2) (SK2.1.rr (VD2.me.len HW.2.2.2.2.1))) (by dsimp only; omega) (Nat.le_of_ble_eq_true rfl) (fun E m9 q9 => by simp at q9) (fun v8 μ8 hq => ?_)
      obtain ⟨e, e1⟩ := hq
      cases e
      rw [e1]
      refine mj_if_eq (tgt := 4) dMod_doBelong_16 (by decide) (fun hc2 => ?_) (fun hc2 => ?_)
      · exact ih a _ _ SS2 SK2 VD2 hr2 (by rw [← hb, bI_0.mp hc2]; rfl)
      refine mj_iconst (v := nI 1) dMod_doBelong_19 (by decide) ?_
      exact mj_zret dMod_doBelong_20 rfl (by decide) ⟨by rw [← hb, bI_1 hc2]; rfl, SS2⟩
  refine mc_of (L := [_]) (by decide) (Nat.le_of_ble_eq_true rfl) rfl ?_
  refine mj_aload_n dMod_doBelong_0 rfl ?_
  refine mj_p0 dMod_doBelong_1 ip_Mod_163 cd_Mod_begin ar_Mod_begin (c_Mod_begin (d := d) (V := V)) (by dsimp only; omega) (Nat.le_of_ble_eq_true rfl) (fun E m9 q9 => by simp at q9) (fun v9 μ9 hq => ?_)
  obtain ⟨e, S1, SK1⟩ := hq
  cases e
  exact loop _ [] 0 _ S1 SK1 VDs.nil (rest_root V w u true) rfl
theorem c_Mod_belong (HV : Rv μ V) (HL : Rl μ w u) : Mc l G mMod_belong (d + 8) m [.ref m] μ (fun o μ' => o = rI (bI (belB V w u)) ∧ Pe μ μ' ∧ μ' 0 0 = 0) := by
  obtain ⟨l1, l2, l3, l4, l5, l6, l7, l8⟩ := id HL
  have P1 : Pe μ (mup μ 0 0 (nI 0)) := Pe.rf.up (by omega)
  have l1' := (P1 14 0 (by omega)).trans l1
  have l2' := (P1 14 1 (by omega)).trans l2
  refine mc_of (L := [_]) (by decide) (Nat.le_of_ble_eq_true rfl) rfl ?_
  refine mj_aload_n dMod_belong_0 rfl ?_
  refine mj_iconst (v := nI 0) dMod_belong_1 (by decide) ?_
  refine mj_put dMod_belong_2 (fp_Mod_107 _) (by decide) ?_
  have z0 : mup μ 0 0 (nI 0) 0 0 = 0 := mup_s _ _ _ _
  have l3' : ∀ i, i < w.length → mup μ 0 0 (nI 0) 15 (0 + i) = nI (w.getD i 0) := fun i hi => by rw [Nat.zero_add]; exact (P1 _ _ (by omega)).trans (l3 i hi)
  have l4' : ∀ i, i < u.length → mup μ 0 0 (nI 0) 15 (5 + i) = nI (u.getD i 0) := fun i hi => (P1 _ _ (by omega)).trans (l4 i hi)
  generalize mup μ 0 0 (nI 0) = μ1 at *
  refine mj_aload_n dMod_belong_5 rfl ?_
  refine mj_aload_n dMod_belong_6 rfl ?_
  refine mj_get dMod_belong_7 fg_Mod_53 rfl ?_
  refine mj_iconst (v := nI 0) dMod_belong_10 (by decide) ?_
  refine mj_aload_n dMod_belong_11 rfl ?_
  refine mj_get dMod_belong_12 fg_Mod_50 rfl ?_
  refine mj_iconst (v := nI 0) dMod_belong_15 (by decide) ?_
  refine mj_iaload dMod_belong_16 (by decide) rfl (show _ < 2 by decide) (by decide) ?_
  rw [l1']
  refine mj_iconst (v := nI 5) dMod_belong_17 (by decide) ?_
  refine mj_aload_n dMod_belong_18 rfl ?_
  refine mj_get dMod_belong_19 fg_Mod_50 rfl ?_
  refine mj_iconst (v := nI 1) dMod_belong_22 (by decide) ?_
  refine mj_iaload dMod_belong_23 (by decide) rfl (show _ < 2 by decide) (by decide) ?_
  rw [l2']
  refine mj_p5 dMod_belong_24 ip_Mod_174 cd_Mod_take ar_Mod_take (c_Mod_take (d := d) (k := 15) (a := 0) (b := 5) (Or.inl rfl) (show 0 + w.length ≤ 10 by omega) (show 5 + u.length ≤ 10 by omega) l5 l6 l7 l8 l3' l4') (by dsimp only; omega) (Nat.le_of_ble_eq_true rfl) (fun E m9 q9 => by simp at q9) (fun v9 μ9 hq => ?_)
  obtain ⟨e, W2, T2⟩ := hq
  cases e
  refine mj_aload_n dMod_belong_27 rfl ?_
  refine mj_p0 dMod_belong_28 ip_Mod_178 cd_Mod_doBelong ar_Mod_doBelong (c_Mod_doBelong (d := d) ((HV.pe P1).pe T2.pe) W2) (by dsimp only; omega) (Nat.le_of_ble_eq_true rfl) (fun E m9 q9 => by simp at q9) (fun v8 μ8 hq => ?_)
  obtain ⟨e, S3⟩ := hq
  cases e
  exact mj_zret dMod_belong_31 rfl (bI_01 _) ⟨rfl, (P1.trans T2.pe).trans (Pe.ss S3), by rw [S3 _ _ (by omega), T2 _ _ (by omega)]; exact z0⟩
def chkB (V : xV) (ss : List (List Nat × List Nat)) : Nat → Nat → Int32
  | 0, _ => -1
  | j + 1, i => if belB V (ss.getD i ([], [])).1 (ss.getD i ([], [])).2 then chkB V ss j (i + 1) else nI i
theorem c_Mod_check {ss : List (List Nat × List Nat)} (HV : Rv μ V) (HP : Rp μ ss) : Mc l G mMod_check (d + 8) m [.ref m] μ (fun o μ' => o = rI (chkB V ss ss.length 0) ∧ Pe μ μ' ∧ μ' 0 0 = 0) := by
  have loop : ∀ (j i : Nat) (μ1 : xMu), i + j = ss.length → Pe μ μ1 → μ1 0 0 = 0 → chkB V ss j i = chkB V ss ss.length 0 → Mj (l, G, d + 8, m, fun o μ' => o = rI (chkB V ss ss.length 0) ∧ Pe μ μ' ∧ μ' 0 0 = 0) mMod_check 7 [some (.ref m), some (.int (nI i))] [] μ1 := by
    intro j
    induction j with
    | zero =>
      intro i μ1 hij PE z0 hk
      obtain ⟨h1, h2, h3⟩ := HP.pe PE
      refine mj_iload_n dMod_check_7 rfl ?_
      refine mj_aload_n dMod_check_8 rfl ?_
      refine mj_get dMod_check_9 fg_Mod_198 rfl ?_
      rw [h1]
      refine mj_icmp_ge (tgt := 66) dMod_check_12 (by decide) (fun hc => ?_) (fun hc => ?_)
      · refine mj_iconst (v := -1) dMod_check_66 (by decide) ?_
        exact mj_iret dMod_check_67 rfl ⟨by rw [← hk]; rfl, PE, z0⟩
      · exact absurd (nI_le (by omega) (by omega)) hc
    | succ j ih =>
      intro i μ1 hij PE z0 hk
      obtain ⟨h1, h2, h3⟩ := id (HP.pe PE)
      obtain ⟨k1, k2, k3, k4, k5, k6, k7, k8⟩ := h3 i (by omega)
      refine mj_iload_n dMod_check_7 rfl ?_
      refine mj_aload_n dMod_check_8 rfl ?_
      refine mj_get dMod_check_9 fg_Mod_198 rfl ?_
      rw [h1]
      refine mj_icmp_ge (tgt := 66) dMod_check_12 (by decide) (fun hc => ?_) (fun hc => ?_)
      · exact absurd hc (nI_ge (by omega) (by omega))
      refine mj_aload_n dMod_check_15 rfl ?_
      refine mj_aload_n dMod_check_16 rfl ?_
      refine mj_get dMod_check_17 fg_Mod_83 rfl ?_
      refine mj_bipush (v := nI 10) dMod_check_20 (by decide) ?_
      refine mj_iload_n dMod_check_22 rfl ?_
      refine mj_imul dMod_check_23 ?_
      refine mj_aload_n dMod_check_24 rfl ?_
      refine mj_get dMod_check_25 fg_Mod_80 rfl ?_
      refine mj_iconst (v := nI 2) dMod_check_28 (by decide) ?_
      refine mj_iload_n dMod_check_29 rfl ?_
      refine mj_imul dMod_check_30 ?_
      rw [show nI 10 * nI i = nI (10 * i) from pk_mul _ _, show nI 2 * nI i = nI (2 * i) from pk_mul _ _]
      refine mj_iaload dMod_check_31 (by decide) rfl (show _ < 16 by omega) (by decide) ?_
      rw [k1]
      refine mj_bipush (v := nI 10) dMod_check_32 (by decide) ?_
      refine mj_iload_n dMod_check_34 rfl ?_
      refine mj_imul dMod_check_35 ?_
      refine mj_iconst (v := nI 5) dMod_check_36 (by decide) ?_
      refine mj_iadd dMod_check_37 ?_
      refine mj_aload_n dMod_check_38 rfl ?_
      refine mj_get dMod_check_39 fg_Mod_80 rfl ?_
      refine mj_iconst (v := nI 2) dMod_check_42 (by decide) ?_
      refine mj_iload_n dMod_check_43 rfl ?_
      refine mj_imul dMod_check_44 ?_
      refine mj_iconst (v := nI 1) dMod_check_45 (by decide) ?_
      refine mj_iadd dMod_check_46 ?_
      rw [show nI 10 * nI i = nI (10 * i) from pk_mul _ _, show nI 2 * nI i = nI (2 * i) from pk_mul _ _, show nI (10 * i) + nI 5 = nI (10 * i + 5) from nI_add _ _, show nI (2 * i) + nI 1 = nI (2 * i + 1) from nI_add _ _]
      refine mj_iaload dMod_check_47 (by decide) rfl (show _ < 16 by omega) (by decide) ?_
      rw [k2]
      refine mj_p5 dMod_check_48 ip_Mod_174 cd_Mod_take ar_Mod_take (c_Mod_take (d := d) (k := 25) (a := 10 * i) (b := 10 * i + 5) (Or.inr rfl) (show _ ≤ 80 by omega) (show _ ≤ 80 by omega) k5 k6 k7 k8 k3 k4) (by dsimp only; omega) (Nat.le_of_ble_eq_true rfl) (fun E m9 q9 => by simp at q9) (fun v9 μ9 hq => ?_)
      obtain ⟨e, W2, T2⟩ := hq
      cases e
      refine mj_aload_n dMod_check_51 rfl ?_
      refine mj_p0 dMod_check_52 ip_Mod_178 cd_Mod_doBelong ar_Mod_doBelong (c_Mod_doBelong (d := d) ((HV.pe PE).pe T2.pe) W2) (by dsimp only; omega) (Nat.le_of_ble_eq_true rfl) (fun E m9 q9 => by simp at q9) (fun v8 μ8 hq => ?_)
      obtain ⟨e, S3⟩ := hq
      cases e
      have PE2 := (PE.trans T2.pe).trans (Pe.ss S3)
      have z2 : μ8 0 0 = 0 := by rw [S3 _ _ (by omega), T2 _ _ (by omega)]; exact z0
      refine mj_if_ne (tgt := 60) dMod_check_55 (by decide) (fun hc2 => ?_) (fun hc2 => ?_)
      · refine mj_iinc (L' := [_, _]) dMod_check_60 rfl rfl (by decide) rfl ?_
        refine mj_goto (tgt := 7) dMod_check_63 (by decide) ?_
        rw [show nI i + Int32.ofInt 1 = nI (i + 1) from nI_1 i]
        exact ih (i + 1) _ (by omega) PE2 z2 (by rw [← hk, chkB, if_pos (bI_1 hc2)])
      · refine mj_iload_n dMod_check_58 rfl ?_
        exact mj_iret dMod_check_59 rfl ⟨by rw [← hk, chkB, bI_0.mp hc2]; rfl, PE2, z2⟩
  refine mc_of (L := [_, _]) (by decide) (Nat.le_of_ble_eq_true rfl) rfl ?_
  refine mj_aload_n dMod_check_0 rfl ?_
  refine mj_iconst (v := nI 0) dMod_check_1 (by decide) ?_
  refine mj_put dMod_check_2 (fp_Mod_107 _) (by decide) ?_
  refine mj_iconst (v := nI 0) dMod_check_5 (by decide) ?_
  refine mj_istore_n (L' := [_, _]) dMod_check_6 (by decide) rfl ?_
  exact loop _ 0 _ (by omega) (Pe.rf.up (by omega)) (mup_s _ _ _ _) rfl
end MBEL
