/-! The reference: finish, blame, write. -/
def Rz (μ : xMu) (ks : List Nat) : Prop := μ 0 19 = nI ks.length ∧ (∀ j, j < ks.length → μ 16 j = nI (dS (ks.getD j 0)) ∧ μ 17 j = nI (dT (ks.getD j 0)) ∧ μ 18 j = nI (dC (ks.getD j 0)) ∧ μ 19 j = nI (dE (ks.getD j 0))) ∧ ks.length ≤ 60 ∧ ∀ k ∈ ks, VT k
def Zz (μ μ' : xMu) : Prop := ∀ a b : Nat, ¬ ((a = 0 ∧ b = 19) ∨ (16 ≤ a ∧ a ≤ 19)) → μ' a b = μ a b
theorem Zz.rf {μ : xMu} : Zz μ μ := fun _ _ _ => rfl
theorem Zz.up {μ μ1 : xMu} {k j : Nat} {v : Int32} (a : Zz μ μ1) (h : (k = 0 ∧ j = 19) ∨ (16 ≤ k ∧ k ≤ 19)) : Zz μ (mup μ1 k j v) := fun x y hn => by
  rw [mup_ne _ _ (by
    by_cases e : x = k
    · by_cases e2 : y = j
      · exact absurd (by rw [e, e2]; exact h) hn
      · exact Or.inr e2
    · exact Or.inl e)]
  exact a x y hn
/-- what persists, but the results -/
def Pz (μ μ' : xMu) : Prop := ∀ a b : Nat, (a = 0 ∧ (b = 1 ∨ b = 4 ∨ b = 12 ∨ b = 29)) ∨ (1 ≤ a ∧ a ≤ 15) ∨ a = 24 ∨ a = 25 → μ' a b = μ a b
theorem Pe.pz {μ μ1 : xMu} (a : Pe μ μ1) : Pz μ μ1 := fun x y h => a x y (by omega)
theorem Pz.trans {μ μ1 μ2 : xMu} (a : Pz μ μ1) (b : Pz μ1 μ2) : Pz μ μ2 := fun x y h => (b x y h).trans (a x y h)
theorem Zz.pz {μ μ1 : xMu} (a : Zz μ μ1) : Pz μ μ1 := fun x y h => a x y (by omega)
def val8 (w : List Nat) : Nat := w.foldl (fun t x => 8 * t + x) 0
theorem val8_snoc (w : List Nat) (x : Nat) : val8 (w ++ [x]) = 8 * val8 w + x := by simp [val8]
theorem val8_lt : ∀ (w : List Nat) (n : Nat), w.length = n → (∀ x ∈ w, x < 8) → val8 w < 8 ^ n := by
  intro w n
  induction n generalizing w with
  | zero => intro h _; rw [List.length_eq_zero_iff.mp h]; decide
  | succ n ih =>
    intro h hx
    rcases List.eq_nil_or_concat w with z | ⟨ini, q, z⟩
    · rw [z] at h; simp at h
    · rw [List.concat_eq_append] at z
      subst z
      have hl : ini.length = n := by simpa using h
      have := ih ini hl (fun x hx9 => hx x (List.mem_append_left _ hx9))
      have hq := hx q (by simp)
      rw [val8_snoc, Nat.pow_succ]
      omega
theorem upw_snoc (W : xW) (row : List Nat) (p : Nat) : upw W (row ++ [p]) = upw W row ++ (if upp W p = 0 then [] else [upp W p]) := by
  unfold upw
  rw [List.map_append, List.filter_append]
  congr 1
  by_cases q : upp W p = 0
  · rw [if_pos q]; simp [q]
  · rw [if_neg q]; simp [q]
theorem upw_len (V : xV) (row : List Nat) : (upw (wv V) row).length = upc V row := by
  unfold upw upc
  rw [List.filter_map, List.length_map]
  rfl
def wk (V : xV) (row : List Nat) : Nat := kk (upw (wv V) row).length (val8 (upw (wv V) row)) 0 0
def wfold (V : xV) : List (List Nat) → List Nat → List Nat × Bool
  | [], ks => (ks, false)
  | a :: more, ks => if keepsB V a then (if (radd (ks, false) (wk V a)).2 then (ks, true) else wfold V more (radd (ks, false) (wk V a)).1) else wfold V more ks
theorem post_up {V : xV} {w u : List Nat} : ∀ (f : Nat) (row : List Nat), upc V row ≤ 5 → ∀ a ∈ post V w u false f row, upc V a ≤ 5
  | 0, _, _, a, ha => by simp [post] at ha
  | f + 1, row, h, a, ha => by
    rw [post, List.mem_append] at ha
    rcases ha with ha | ha
    · obtain ⟨p, -, hp⟩ := List.mem_flatMap.mp ha
      by_cases q : okR V w u false row p = true
      · rw [if_pos q] at hp
        refine post_up f (row ++ [p]) ?_ a hp
        rw [upc_snoc]
        by_cases z : upp (wv V) p = 0
        · rw [if_pos z]; exact h
        · rw [if_neg z]
          unfold okR at q
          rw [Bool.and_eq_true] at q
          have q2 := q.2
          unfold fitU at q2
          rw [show (upp (wv V) p == 0) = false from by rw [beq_eq_false_iff_ne]; exact z, Bool.false_or] at q2
          have q3 : decide (upc V row < 5) = true := q2
          simp at q3
          omega
      · rw [if_neg q] at hp; simp at hp
    · by_cases q : fullR V w u false row = true
      · rw [if_pos q, List.mem_singleton] at ha; rw [ha]; exact h
      · rw [if_neg q] at ha; simp at ha
section MWRITE
variable {l : Launch} {G : xG} {d m : Nat} {μ : xMu} {V : xV} {w u : List Nat} {ks : List Nat}
theorem c_Mod_finish (H : Fo μ ks) : Mc l G mMod_finish d m [.ref m] μ (fun o μ' => o = rI (nI ks.length) ∧ Rz μ' ks ∧ Zz μ μ') := by
  obtain ⟨f1, f2, f3, f4, f5⟩ := H
  have loop : ∀ (j i : Nat) (μ1 : xMu), i + j = ks.length → Zz μ μ1 → μ1 0 19 = nI ks.length → (∀ q, q < i → μ1 16 q = nI (dS (ks.getD q 0)) ∧ μ1 17 q = nI (dT (ks.getD q 0)) ∧ μ1 18 q = nI (dC (ks.getD q 0)) ∧ μ1 19 q = nI (dE (ks.getD q 0))) → Mj (l, G, d, m, fun o μ' => o = rI (nI ks.length) ∧ Rz μ' ks ∧ Zz μ μ') mMod_finish 10 [some (.ref m), some (.int (nI i))] [] μ1 := by
    intro j
    induction j with
    | zero =>
      intro i μ1 hij Z e1 e2
      have e24 : μ1 0 24 = nI ks.length := (Z _ _ (by omega)).trans f1
      refine mj_iload_n dMod_finish_10 rfl ?_
      refine mj_aload_n dMod_finish_11 rfl ?_
      refine mj_get dMod_finish_12 fg_Mod_181 rfl ?_
      rw [e24]
      refine mj_icmp_ge (tgt := 72) dMod_finish_15 (by decide) (fun hc => ?_) (fun hc => ?_)
      · refine mj_aload_n dMod_finish_72 rfl ?_
        refine mj_get dMod_finish_73 fg_Mod_181 rfl ?_
        rw [e24]
        exact mj_iret dMod_finish_76 rfl ⟨rfl, ⟨e1, fun q hq => e2 q (by omega), f3, f4⟩, Z⟩
      · exact absurd (nI_le (by omega) (by omega)) hc
    | succ j ih =>
      intro i μ1 hij Z e1 e2
      have e24 : μ1 0 24 = nI ks.length := (Z _ _ (by omega)).trans f1
      have fk := (f2 i (by omega)).eq (μ' := μ1) (fun a h1 h2 => Z _ _ (by omega))
      refine mj_iload_n dMod_finish_10 rfl ?_
      refine mj_aload_n dMod_finish_11 rfl ?_
      refine mj_get dMod_finish_12 fg_Mod_181 rfl ?_
      rw [e24]
      refine mj_icmp_ge (tgt := 72) dMod_finish_15 (by decide) (fun hc => ?_) (fun hc => ?_)
      · exact absurd hc (nI_ge (by omega) (by omega))
      refine mj_aload_n dMod_finish_18 rfl ?_
      refine mj_get dMod_finish_19 fg_Mod_56 rfl ?_
      refine mj_iload_n dMod_finish_22 rfl ?_
      refine mj_aload_n dMod_finish_23 rfl ?_
      refine mj_get dMod_finish_24 fg_Mod_68 rfl ?_
      refine mj_iload_n dMod_finish_27 rfl ?_
      refine mj_iaload dMod_finish_28 (by decide) rfl (show _ < 61 by omega) (by decide) ?_
      rw [fk.1]
      refine mj_iastore dMod_finish_29 (by decide) rfl (show _ < 60 by omega) (by decide) ?_
      refine mj_aload_n dMod_finish_30 rfl ?_
      refine mj_get dMod_finish_31 fg_Mod_59 rfl ?_
      refine mj_iload_n dMod_finish_34 rfl ?_
      refine mj_aload_n dMod_finish_35 rfl ?_
      refine mj_get dMod_finish_36 fg_Mod_71 rfl ?_
      refine mj_iload_n dMod_finish_39 rfl ?_
      refine mj_iaload dMod_finish_40 (by decide) rfl (show _ < 61 by omega) (by decide) ?_
      rw [show mup μ1 16 i (nI (dS (ks.getD i 0))) 21 i = nI (dT (ks.getD i 0)) from by rw [mup_k _ _ (by decide)]; exact fk.2.1]
      refine mj_iastore dMod_finish_41 (by decide) rfl (show _ < 60 by omega) (by decide) ?_
      refine mj_aload_n dMod_finish_42 rfl ?_
      refine mj_get dMod_finish_43 fg_Mod_62 rfl ?_
      refine mj_iload_n dMod_finish_46 rfl ?_
      refine mj_aload_n dMod_finish_47 rfl ?_
      refine mj_get dMod_finish_48 fg_Mod_74 rfl ?_
      refine mj_iload_n dMod_finish_51 rfl ?_
      refine mj_iaload dMod_finish_52 (by decide) rfl (show _ < 61 by omega) (by decide) ?_
      rw [show mup (mup μ1 16 i (nI (dS (ks.getD i 0)))) 17 i (nI (dT (ks.getD i 0))) 22 i = nI (dC (ks.getD i 0)) from by rw [mup_k _ _ (by decide), mup_k _ _ (by decide)]; exact fk.2.2.1]
      refine mj_iastore dMod_finish_53 (by decide) rfl (show _ < 60 by omega) (by decide) ?_
      refine mj_aload_n dMod_finish_54 rfl ?_
      refine mj_get dMod_finish_55 fg_Mod_65 rfl ?_
      refine mj_iload_n dMod_finish_58 rfl ?_
      refine mj_aload_n dMod_finish_59 rfl ?_
      refine mj_get dMod_finish_60 fg_Mod_77 rfl ?_
      refine mj_iload_n dMod_finish_63 rfl ?_
      refine mj_iaload dMod_finish_64 (by decide) rfl (show _ < 61 by omega) (by decide) ?_
      rw [show mup (mup (mup μ1 16 i (nI (dS (ks.getD i 0)))) 17 i (nI (dT (ks.getD i 0)))) 18 i (nI (dC (ks.getD i 0))) 23 i = nI (dE (ks.getD i 0)) from by rw [mup_k _ _ (by decide), mup_k _ _ (by decide), mup_k _ _ (by decide)]; exact fk.2.2.2]
      refine mj_iastore dMod_finish_65 (by decide) rfl (show _ < 60 by omega) (by decide) ?_
      refine mj_iinc (L' := [_, _]) dMod_finish_66 rfl rfl (by decide) rfl ?_
      refine mj_goto (tgt := 10) dMod_finish_69 (by decide) ?_
      rw [show nI i + Int32.ofInt 1 = nI (i + 1) from nI_1 i]
      refine ih (i + 1) _ (by omega) ((((Z.up (by omega)).up (by omega)).up (by omega)).up (by omega)) (by rw [mup_k _ _ (by decide), mup_k _ _ (by decide), mup_k _ _ (by decide), mup_k _ _ (by decide)]; exact e1) (fun q hq => ?_)
      by_cases e : q = i
      · subst e
        refine ⟨?_, ?_, ?_, ?_⟩
        · rw [mup_k _ _ (by decide), mup_k _ _ (by decide), mup_k _ _ (by decide), mup_s]
        · rw [mup_k _ _ (by decide), mup_k _ _ (by decide), mup_s]
        · rw [mup_k _ _ (by decide), mup_s]
        · rw [mup_s]
      · obtain ⟨x1, x2, x3, x4⟩ := e2 q (by omega)
        have hun : ∀ a, mup (mup (mup (mup μ1 16 i (nI (dS (ks.getD i 0)))) 17 i (nI (dT (ks.getD i 0)))) 18 i (nI (dC (ks.getD i 0)))) 19 i (nI (dE (ks.getD i 0))) a q = μ1 a q := fun a => by rw [mup_ne _ _ (Or.inr e), mup_ne _ _ (Or.inr e), mup_ne _ _ (Or.inr e), mup_ne _ _ (Or.inr e)]
        rw [hun, hun, hun, hun]
        exact ⟨x1, x2, x3, x4⟩
  refine mc_of (L := [_, _]) (by decide) (Nat.le_of_ble_eq_true rfl) rfl ?_
  refine mj_aload_n dMod_finish_0 rfl ?_
  refine mj_aload_n dMod_finish_1 rfl ?_
  refine mj_get dMod_finish_2 fg_Mod_181 rfl ?_
  rw [f1]
  refine mj_put dMod_finish_5 (fp_Mod_118 _) (by decide) ?_
  refine mj_iconst (v := nI 0) dMod_finish_8 (by decide) ?_
  refine mj_istore_n (L' := [_, _]) dMod_finish_9 (by decide) rfl ?_
  exact loop ks.length 0 _ (by omega) (Zz.rf.up (by omega)) (mup_s _ _ _ _) (fun q hq => absurd hq (Nat.not_lt_zero _))
def keptM (V : xV) (rows : List (List Nat)) : Nat := msk (fun r => rows.any (fun a => keptB V a r)) V.2.1.length
def fzero (b : Nat) : Nat → Nat → Int32
  | 0, _ => -1
  | j + 1, i => if b.testBit i then fzero b j (i + 1) else nI i
def blaB (V : xV) (w u : List Nat) : Int32 := if (post V w u true 10 []).isEmpty then -2 else fzero (keptM V (post V w u true 10 [])) V.2.1.length 0
theorem keptM_snoc (V : xV) (rows : List (List Nat)) (a : List Nat) : keptM V rows ||| msk (keptB V a) V.2.1.length = keptM V (rows ++ [a]) := by
  apply Nat.eq_of_testBit_eq
  intro i
  unfold keptM
  rw [Nat.testBit_or, msk_bit, msk_bit, msk_bit, List.any_append]
  simp only [List.any_cons, List.any_nil, Bool.or_false]
  cases decide (i < V.2.1.length) <;> simp
theorem c_Mod_blame (HV : Rv μ V) (HL : Rl μ w u) : Mc l G mMod_blame (d + 8) m [.ref m] μ (fun o μ' => o = rI (blaB V w u) ∧ Pe μ μ' ∧ μ' 0 0 = 0) := by
  obtain ⟨l1, l2, l3, l4, l5, l6, l7, l8⟩ := id HL
  have last : ∀ (rows : List (List Nat)) (μ1 : xMu) (j i : Nat), rows = post V w u true 10 [] → Pe μ μ1 → μ1 0 0 = 0 → i + j = V.2.1.length → (rows ≠ [] → fzero (keptM V rows) j i = fzero (keptM V rows) V.2.1.length 0) → Mj (l, G, d + 8, m, fun o μ' => o = rI (blaB V w u) ∧ Pe μ μ' ∧ μ' 0 0 = 0) mMod_blame 84 [some (.ref m), some (.int (nI (keptM V rows))), some (.int (bI (!rows.isEmpty))), some (.int (nI i))] [] μ1 := by
    intro rows μ1 j
    induction j with
    | zero =>
      intro i hrow PE z0 hij hf
      obtain ⟨v1, v2, v3, v4, v5, v6, v7, v8, v9, v10, -⟩ := HV.pe PE
      refine mj_iload_n dMod_blame_84 rfl ?_
      refine mj_aload_n dMod_blame_85 rfl ?_
      refine mj_get dMod_blame_86 fg_Mod_121 rfl ?_
      rw [v2]
      refine mj_icmp_ge (tgt := 112) dMod_blame_89 (by decide) (fun hc => ?_) (fun hc => ?_)
      rotate_left
      · exact absurd (nI_le (by omega) (by omega)) hc
      refine mj_iload_n dMod_blame_112 rfl ?_
      refine mj_if_eq (tgt := 120) dMod_blame_113 (by decide) (fun hc2 => ?_) (fun hc2 => ?_)
      · have hz := bI_0.mp hc2
        have hz : rows.isEmpty = true := by simpa using hz
        refine mj_bipush (v := -2) dMod_blame_120 (by decide) ?_
        exact mj_iret dMod_blame_122 rfl ⟨by unfold blaB; rw [← hrow, if_pos hz], PE, z0⟩
      · have hz := bI_1 hc2
        have hz2 : ¬ rows.isEmpty = true := by simpa using hz
        have hne : rows ≠ [] := fun q => hz2 (by rw [q]; rfl)
        refine mj_iconst (v := -1) dMod_blame_116 (by decide) ?_
        refine mj_goto (tgt := 122) dMod_blame_117 (by decide) ?_
        exact mj_iret dMod_blame_122 rfl ⟨by unfold blaB; rw [← hrow, if_neg hz2, ← hf hne]; rfl, PE, z0⟩
    | succ j ih =>
      intro i hrow PE z0 hij hf
      obtain ⟨v1, v2, v3, v4, v5, v6, v7, v8, v9, v10, -⟩ := id (HV.pe PE)
      have hK : keptM V rows < 16 := msk_lt16 v10
      refine mj_iload_n dMod_blame_84 rfl ?_
      refine mj_aload_n dMod_blame_85 rfl ?_
      refine mj_get dMod_blame_86 fg_Mod_121 rfl ?_
      rw [v2]
      refine mj_icmp_ge (tgt := 112) dMod_blame_89 (by decide) (fun hc => ?_) (fun hc => ?_)
      · exact absurd hc (nI_ge (by omega) (by omega))
      refine mj_iload_n dMod_blame_92 rfl ?_
      refine mj_if_eq (tgt := 112) dMod_blame_93 (by decide) (fun hc2 => ?_) (fun hc2 => ?_)
      · have hz := bI_0.mp hc2
        have hz2 : rows.isEmpty = true := by simpa using hz
        refine mj_iload_n dMod_blame_112 rfl ?_
        refine mj_if_eq (tgt := 120) dMod_blame_113 (by decide) (fun hc4 => ?_) (fun hc4 => absurd hc2 hc4)
        refine mj_bipush (v := -2) dMod_blame_120 (by decide) ?_
        exact mj_iret dMod_blame_122 rfl ⟨by unfold blaB; rw [← hrow, if_pos hz2], PE, z0⟩
      have hz := bI_1 hc2
      have hz2 : ¬ rows.isEmpty = true := by simpa using hz
      have hne : rows ≠ [] := fun q => hz2 (by rw [q]; rfl)
      refine mj_iload_n dMod_blame_96 rfl ?_
      refine mj_iload_n dMod_blame_97 rfl ?_
      refine mj_ishr dMod_blame_98 ?_
      rw [nb_shr (by omega) (by omega)]
      refine mj_iconst (v := nI 1) dMod_blame_99 (by decide) ?_
      refine mj_iand dMod_blame_100 ?_
      rw [nb_and]
      have hlt : (keptM V rows >>> i) &&& 1 < 2 ^ 1 := and_ltr (by decide)
      refine mj_if_ne (tgt := 106) dMod_blame_101 (by decide) (fun hc3 => ?_) (fun hc3 => ?_)
      · have q : (keptM V rows).testBit i = true := by
          cases h9 : (keptM V rows).testBit i
          · have z : ¬ (keptM V rows >>> i) &&& 1 = 1 := fun z => by rw [nb_one.mp z] at h9; cases h9
            exact absurd (by rw [show (keptM V rows >>> i) &&& 1 = 0 by omega]; rfl) hc3
          · rfl
        refine mj_iinc (L' := [_, _, _, _]) dMod_blame_106 rfl rfl (by decide) rfl ?_
        refine mj_goto (tgt := 84) dMod_blame_109 (by decide) ?_
        rw [show nI i + Int32.ofInt 1 = nI (i + 1) from nI_1 i]
        exact ih (i + 1) hrow PE z0 (by omega) (fun z => by rw [← hf z, fzero, if_pos q])
      · have q : ¬ (keptM V rows).testBit i = true := fun z => by
          rw [nb_one.mpr z] at hc3
          exact absurd hc3 (by decide)
        refine mj_iload_n dMod_blame_104 rfl ?_
        exact mj_iret dMod_blame_105 rfl ⟨by unfold blaB; rw [← hrow, if_neg hz2, ← hf hne, fzero, if_neg q], PE, z0⟩
  have loop : ∀ (ρ seen : List (List Nat)) (row : List Nat) (t : Nat) (μ1 : xMu) x3, Pe μ μ1 → μ1 0 0 = 0 → Rw μ1 w u → Sk μ1 V row t → VDs V w row → restR V w u true row.reverse t = ρ → seen ++ ρ = post V w u true 10 [] → Mj (l, G, d + 8, m, fun o μ' => o = rI (blaB V w u) ∧ Pe μ μ' ∧ μ' 0 0 = 0) mMod_blame 35 [some (.ref m), some (.int (nI (keptM V seen))), some (.int (bI (!seen.isEmpty))), x3] [] μ1 := by
    intro ρ
    induction ρ with
    | nil =>
      intro seen row t μ1 x3 PE z0 RW SK VD hr hb
      refine mj_aload_n dMod_blame_35 rfl ?_
      refine mj_iconst (v := nI 1) dMod_blame_36 (by decide) ?_
      refine mj_p1 dMod_blame_37 ip_Mod_166 cd_Mod_nextAlignment ar_Mod_nextAlignment (c_Mod_next (d := d) (gv := true) (HV.pe PE) RW SK VD hr) (by dsimp only; omega) (Nat.le_of_ble_eq_true rfl) (fun E m9 q9 => by obtain ⟨-, q9⟩ := q9; unfold Nx at q9; split at q9 <;> simp at q9) (fun v9 μ9 hq => ?_)
      obtain ⟨S2, N2⟩ := hq
      have N2 : _ = rI (bI false) := N2
      cases N2
      refine mj_if_eq (tgt := 82) dMod_blame_40 (by decide) (fun hc => ?_) (fun hc => ?_)
      rotate_left
      · exact absurd rfl hc
      refine mj_iconst (v := nI 0) dMod_blame_82 (by decide) ?_
      refine mj_istore_n (L' := [_, _, _, _]) dMod_blame_83 (by decide) rfl ?_
      rw [List.append_nil] at hb
      exact last seen _ V.2.1.length 0 hb (PE.trans (Pe.ss S2)) ((S2 _ _ (by omega)).trans z0) (by omega) (fun _ => rfl)
    | cons a more ih =>
      intro seen row t μ1 x3 PE z0 RW SK VD hr hb
      refine mj_aload_n dMod_blame_35 rfl ?_
      refine mj_iconst (v := nI 1) dMod_blame_36 (by decide) ?_
      refine mj_p1 dMod_blame_37 ip_Mod_166 cd_Mod_nextAlignment ar_Mod_nextAlignment (c_Mod_next (d := d) (gv := true) (HV.pe PE) RW SK VD hr) (by dsimp only; omega) (Nat.le_of_ble_eq_true rfl) (fun E m9 q9 => by obtain ⟨-, q9⟩ := q9; unfold Nx at q9; split at q9 <;> simp at q9) (fun v9 μ2 hq => ?_)
      obtain ⟨S2, N2, SK2, VD2, hr2⟩ := hq
      cases N2
      have PE2 := PE.trans (Pe.ss S2)
      have HV2 := HV.pe PE2
      have z2 := (S2 _ _ (by omega)).trans z0
      have RR := SK2.1.rr (VD2.me.len RW.2.2.2.2.1)
      obtain ⟨v1, v2, v3, v4, v5, v6, v7, v8, v9, v10, -⟩ := id HV2
      refine mj_if_eq (tgt := 82) dMod_blame_40 (by decide) (fun hc => ?_) (fun hc => ?_)
      · exact absurd hc (by decide)
      have inner : ∀ (j i : Nat), i + j = V.2.1.length → Mj (l, G, d + 8, m, fun o μ' => o = rI (blaB V w u) ∧ Pe μ μ' ∧ μ' 0 0 = 0) mMod_blame 47 [some (.ref m), some (.int (nI (keptM V seen ||| msk (keptB V a) i))), some (.int (bI true)), some (.int (nI i))] [] μ2 := by
        intro j
        induction j with
        | zero =>
          intro i hij
          have e : i = V.2.1.length := by omega
          subst e
          refine mj_iload_n dMod_blame_47 rfl ?_
          refine mj_aload_n dMod_blame_48 rfl ?_
          refine mj_get dMod_blame_49 fg_Mod_121 rfl ?_
          rw [v2]
          refine mj_icmp_ge (tgt := 79) dMod_blame_52 (by decide) (fun hc5 => ?_) (fun hc5 => ?_)
          · rw [keptM_snoc]
            refine mj_goto (tgt := 35) dMod_blame_79 (by decide) ?_
            have T := ih (seen ++ [a]) a (V.1.length + 1) μ2 (some (.int (nI V.2.1.length))) PE2 z2 (RW.ss S2) SK2 VD2 hr2 (by rw [List.append_assoc]; exact hb)
            rw [show (!(seen ++ [a]).isEmpty) = true from by simp] at T
            exact T
          · exact absurd (nI_le (by omega) (by omega)) hc5
        | succ j ihj =>
          intro i hij
          have next : ∀ x : Nat, x = keptM V seen ||| msk (keptB V a) (i + 1) → Mj (l, G, d + 8, m, fun o μ' => o = rI (blaB V w u) ∧ Pe μ μ' ∧ μ' 0 0 = 0) mMod_blame 72 [some (.ref m), some (.int (nI (keptM V seen ||| msk (keptB V a) i))), some (.int (bI true)), some (.int (nI i))] [.int (nI x)] μ2 := by
            intro x hx
            refine mj_istore_n (L' := [_, _, _, _]) dMod_blame_72 (by decide) rfl ?_
            refine mj_iinc (L' := [_, _, _, _]) dMod_blame_73 rfl rfl (by decide) rfl ?_
            refine mj_goto (tgt := 47) dMod_blame_76 (by decide) ?_
            rw [show nI i + Int32.ofInt 1 = nI (i + 1) from nI_1 i, hx]
            exact ihj (i + 1) (by omega)
          refine mj_iload_n dMod_blame_47 rfl ?_
          refine mj_aload_n dMod_blame_48 rfl ?_
          refine mj_get dMod_blame_49 fg_Mod_121 rfl ?_
          rw [v2]
          refine mj_icmp_ge (tgt := 79) dMod_blame_52 (by decide) (fun hc5 => ?_) (fun hc5 => ?_)
          · exact absurd hc5 (nI_ge (by omega) (by omega))
          refine mj_aload_n dMod_blame_55 rfl ?_
          refine mj_iload_n dMod_blame_56 rfl ?_
          refine mj_p1 dMod_blame_57 ip_Mod_150 cd_Mod_isKept ar_Mod_isKept (c_Mod_isKept (d := d) (r := i) (by omega) HV2 RR) (by dsimp only; omega) (Nat.le_of_ble_eq_true rfl) (fun E m9 q9 => by simp at q9) (fun v7 μ7 hq => ?_)
          obtain ⟨e, e1⟩ := hq
          cases e
          rw [e1]
          refine mj_if_eq (tgt := 71) dMod_blame_60 (by decide) (fun hc6 => ?_) (fun hc6 => ?_)
          · refine mj_iload_n dMod_blame_71 rfl ?_
            exact next _ (by rw [msk, bI_0.mp hc6]; simp)
          refine mj_iload_n dMod_blame_63 rfl ?_
          refine mj_iconst (v := nI 1) dMod_blame_64 (by decide) ?_
          refine mj_iload_n dMod_blame_65 rfl ?_
          refine mj_ishl dMod_blame_66 ?_
          rw [nb_shl (a := 1) (by omega) (by have := Nat.pow_le_pow_right (show 0 < 2 by omega) (show i ≤ 4 by omega); omega)]
          refine mj_ior dMod_blame_67 ?_
          rw [nb_or]
          refine mj_goto (tgt := 72) dMod_blame_68 (by decide) ?_
          exact next _ (by rw [msk, bI_1 hc6, if_pos rfl, Nat.or_assoc])
      refine mj_iconst (v := nI 1) dMod_blame_43 (by decide) ?_
      refine mj_istore_n (L' := [_, _, _, _]) dMod_blame_44 (by decide) rfl ?_
      refine mj_iconst (v := nI 0) dMod_blame_45 (by decide) ?_
      refine mj_istore_n (L' := [_, _, _, _]) dMod_blame_46 (by decide) rfl ?_
      have T := inner V.2.1.length 0 (by omega)
      rw [show keptM V seen ||| msk (keptB V a) 0 = keptM V seen from Nat.or_zero _] at T
      exact T
  have P1 : Pe μ (mup μ 0 0 (nI 0)) := Pe.rf.up (by omega)
  have l1' := (P1 14 0 (by omega)).trans l1
  have l2' := (P1 14 1 (by omega)).trans l2
  refine mc_of (L := [_, _, _, _]) (by decide) (Nat.le_of_ble_eq_true rfl) rfl ?_
  refine mj_aload_n dMod_blame_0 rfl ?_
  refine mj_iconst (v := nI 0) dMod_blame_1 (by decide) ?_
  refine mj_put dMod_blame_2 (fp_Mod_107 _) (by decide) ?_
  have z0 : mup μ 0 0 (nI 0) 0 0 = 0 := mup_s _ _ _ _
  have l3' : ∀ i, i < w.length → mup μ 0 0 (nI 0) 15 (0 + i) = nI (w.getD i 0) := fun i hi => by rw [Nat.zero_add]; exact (P1 _ _ (by omega)).trans (l3 i hi)
  have l4' : ∀ i, i < u.length → mup μ 0 0 (nI 0) 15 (5 + i) = nI (u.getD i 0) := fun i hi => (P1 _ _ (by omega)).trans (l4 i hi)
  generalize mup μ 0 0 (nI 0) = μ1 at *
  refine mj_aload_n dMod_blame_5 rfl ?_
  refine mj_aload_n dMod_blame_6 rfl ?_
  refine mj_get dMod_blame_7 fg_Mod_53 rfl ?_
  refine mj_iconst (v := nI 0) dMod_blame_10 (by decide) ?_
  refine mj_aload_n dMod_blame_11 rfl ?_
  refine mj_get dMod_blame_12 fg_Mod_50 rfl ?_
  refine mj_iconst (v := nI 0) dMod_blame_15 (by decide) ?_
  refine mj_iaload dMod_blame_16 (by decide) rfl (show _ < 2 by decide) (by decide) ?_
  rw [l1']
  refine mj_iconst (v := nI 5) dMod_blame_17 (by decide) ?_
  refine mj_aload_n dMod_blame_18 rfl ?_
  refine mj_get dMod_blame_19 fg_Mod_50 rfl ?_
  refine mj_iconst (v := nI 1) dMod_blame_22 (by decide) ?_
  refine mj_iaload dMod_blame_23 (by decide) rfl (show _ < 2 by decide) (by decide) ?_
  rw [l2']
  refine mj_p5 dMod_blame_24 ip_Mod_174 cd_Mod_take ar_Mod_take (c_Mod_take (d := d) (k := 15) (a := 0) (b := 5) (Or.inl rfl) (show 0 + w.length ≤ 10 by omega) (show 5 + u.length ≤ 10 by omega) l5 l6 l7 l8 l3' l4') (by dsimp only; omega) (Nat.le_of_ble_eq_true rfl) (fun E m9 q9 => by simp at q9) (fun v9 μ9 hq => ?_)
  obtain ⟨e, W2, T2⟩ := hq
  cases e
  refine mj_iconst (v := nI 0) dMod_blame_27 (by decide) ?_
  refine mj_istore_n (L' := [_, _, _, _]) dMod_blame_28 (by decide) rfl ?_
  refine mj_iconst (v := nI 0) dMod_blame_29 (by decide) ?_
  refine mj_istore_n (L' := [_, _, _, _]) dMod_blame_30 (by decide) rfl ?_
  refine mj_aload_n dMod_blame_31 rfl ?_
  refine mj_p0 dMod_blame_32 ip_Mod_163 cd_Mod_begin ar_Mod_begin (c_Mod_begin (d := d) (V := V)) (by dsimp only; omega) (Nat.le_of_ble_eq_true rfl) (fun E m9 q9 => by simp at q9) (fun v8 μ8 hq => ?_)
  obtain ⟨e, S3, SK3⟩ := hq
  cases e
  have e0 : keptM V [] = 0 := by
    apply Nat.eq_of_testBit_eq
    intro i
    unfold keptM
    rw [msk_bit]; simp
  have T := loop _ [] [] 0 μ8 none ((P1.trans T2.pe).trans (Pe.ss S3)) (by rw [S3 _ _ (by omega), T2 _ _ (by omega)]; exact z0) (W2.ss S3) SK3 VDs.nil (rest_root V w u true) rfl
  rw [e0] at T
  exact T
end MWRITE
