/-! The reference: isKept, keepsAll, begin, mayCome. -/
section MKEPT
variable {l : Launch} {G : xG} {d m : Nat} {μ : xMu} {V : xV} {row : List Nat}
theorem c_Mod_isKept {r : Nat} (hr4 : r < V.2.1.length) (HV : Rv μ V) (HR : Rr μ V row) : Mc l G mMod_isKept (d + 5) m [.ref m, .int (nI r)] μ (fun o μ' => o = .inl (some (.int (bI (keptB V row r)))) ∧ μ' = μ) := by
  obtain ⟨v1, v2, v3, v4, v5, v6, v7, v8, v9, v10, v11, v12, v13, v14⟩ := id HV
  obtain ⟨w1, w2, w3, w4⟩ := id HR
  have hrm := v11 _ (getD_mem (d := (0, 0)) hr4)
  have hcx := v12 r
  have outer : ∀ (j i : Nat) (x3 x4 x5 x6 : Option Value), i + j = row.length → (List.range' i j).all (keptAt V row r) = keptB V row r → Mj (l, G, d + 5, m, fun o μ' => o = .inl (some (.int (bI (keptB V row r)))) ∧ μ' = μ) mMod_isKept 2 [some (.ref m), some (.int (nI r)), some (.int (nI i)), x3, x4, x5, x6] [] μ := by
    intro j
    induction j with
    | zero =>
      intro i x3 x4 x5 x6 hij hk
      refine mj_iload_n dMod_isKept_2 rfl ?_
      refine mj_aload_n dMod_isKept_3 rfl ?_
      refine mj_get dMod_isKept_4 fg_Mod_144 rfl ?_
      rw [w1]
      refine mj_icmp_ge (tgt := 205) dMod_isKept_7 (by decide) (fun hc => ?_) (fun hc => ?_)
      · refine mj_iconst (v := nI 1) dMod_isKept_205 (by decide) ?_
        exact mj_zret dMod_isKept_206 rfl (by decide) ⟨by rw [show keptB V row r = true from by rw [← hk]; rfl]; rfl, rfl⟩
      · exact absurd (nI_le (by omega) (by omega)) hc
    | succ j ih =>
      intro i x3 x4 x5 x6 hij hk
      rw [List.range'_succ, List.all_cons] at hk
      have hri := w3 _ (getD_mem (d := 0) (show i < row.length by omega))
      have next : ∀ y3 y4 y5 y6, keptAt V row r i = true → Mj (l, G, d + 5, m, fun o μ' => o = .inl (some (.int (bI (keptB V row r)))) ∧ μ' = μ) mMod_isKept 199 [some (.ref m), some (.int (nI r)), some (.int (nI i)), y3, y4, y5, y6] [] μ := by
        intro y3 y4 y5 y6 hz
        refine mj_iinc (L' := [_, _, _, _, _, _, _]) dMod_isKept_199 rfl rfl (by decide) rfl ?_
        refine mj_goto (tgt := 2) dMod_isKept_202 (by decide) ?_
        rw [show nI i + Int32.ofInt 1 = nI (i + 1) from nI_1 i]
        exact ih (i + 1) _ _ _ _ (by omega) (by rw [← hk, hz, Bool.true_and])
      have bad : ∀ y3 y4 y5 y6, keptAt V row r i = false → Mj (l, G, d + 5, m, fun o μ' => o = .inl (some (.int (bI (keptB V row r)))) ∧ μ' = μ) mMod_isKept 197 [some (.ref m), some (.int (nI r)), some (.int (nI i)), y3, y4, y5, y6] [] μ := by
        intro y3 y4 y5 y6 hz
        refine mj_iconst (v := nI 0) dMod_isKept_197 (by decide) ?_
        exact mj_zret dMod_isKept_198 rfl (by decide) ⟨by rw [show keptB V row r = false from by rw [← hk, hz]; rfl]; rfl, rfl⟩
      have t109 : ∀ y5 y6 (own sm9 : Bool), (ownB V row r i || (V.1.getD (row.getD i 0) (0, 0)).1 == (V.1.getD (V.2.1.getD r (0, 0)).2 (0, 0)).1) = true → own = ownB V row r i → sm9 = someB V row r i → Mj (l, G, d + 5, m, fun o μ' => o = .inl (some (.int (bI (keptB V row r)))) ∧ μ' = μ) mMod_isKept 109 [some (.ref m), some (.int (nI r)), some (.int (nI i)), some (.int (bI own)), some (.int (bI sm9)), y5, y6] [] μ := by
        intro y5 y6 own sm9 hrel ho hs
        have hka : keptAt V row r i = !wrongB (V.2.1.getD r (0, 0)).1 own sm9 := by unfold keptAt; rw [if_pos hrel, ← ho, ← hs]
        have hk4 := hrm.1
        refine mj_aload_n dMod_isKept_109 rfl ?_
        refine mj_get dMod_isKept_110 fg_Mod_16 rfl ?_
        refine mj_iload_n dMod_isKept_113 rfl ?_
        refine mj_iaload dMod_isKept_114 (by decide) rfl (show _ < 4 by omega) (by decide) ?_
        rw [(v4 r hr4).1]
        refine mj_istore (L' := [_, _, _, _, _, _, _]) dMod_isKept_115 (by decide) rfl ?_
        generalize (V.2.1.getD r (0, 0)).1 = k at *
        have hk5 : k = 0 ∨ k = 1 ∨ k = 2 ∨ k = 3 := by omega
        cases own <;> cases sm9 <;> rcases hk5 with rfl | rfl | rfl | rfl
        · refine mj_iload_n dMod_isKept_117 rfl ?_
          refine mj_if_eq (tgt := 141) dMod_isKept_118 (by decide) (fun hc => ?_) (fun hc => absurd (by decide) hc)
          refine mj_iconst (v := nI 0) dMod_isKept_141 (by decide) ?_
          refine mj_istore (L' := [_, _, _, _, _, _, _]) dMod_isKept_142 (by decide) rfl ?_
          refine mj_iload dMod_isKept_144 rfl ?_
          refine mj_if_ne (tgt := 170) dMod_isKept_146 (by decide) (fun hc => absurd (by decide) hc) (fun hc => ?_)
          refine mj_iload_n dMod_isKept_149 rfl ?_
          refine mj_if_ne (tgt := 174) dMod_isKept_150 (by decide) (fun hc => absurd (by decide) hc) (fun hc => ?_)
          refine mj_iload dMod_isKept_153 rfl ?_
          refine mj_iconst (v := nI 1) dMod_isKept_155 (by decide) ?_
          refine mj_icmp_eq (tgt := 165) dMod_isKept_156 (by decide) (fun hc => absurd hc (by decide)) (fun hc => ?_)
          refine mj_iload dMod_isKept_159 rfl ?_
          refine mj_iconst (v := nI 2) dMod_isKept_161 (by decide) ?_
          refine mj_icmp_ne (tgt := 174) dMod_isKept_162 (by decide) (fun hc => ?_) (fun hc => absurd hc (by decide))
          refine mj_iconst (v := nI 0) dMod_isKept_174 (by decide) ?_
          refine mj_istore (L' := [_, _, _, _, _, _, _]) dMod_isKept_175 (by decide) rfl ?_
          refine mj_iload dMod_isKept_177 rfl ?_
          refine mj_if_ne (tgt := 197) dMod_isKept_179 (by decide) (fun hc => absurd (by decide) hc) (fun hc => ?_)
          refine mj_iload_n dMod_isKept_182 rfl ?_
          refine mj_if_eq (tgt := 199) dMod_isKept_183 (by decide) (fun hc => ?_) (fun hc => absurd (by decide) hc)
          exact next _ _ _ _ (by rw [hka]; rfl)
        · refine mj_iload_n dMod_isKept_117 rfl ?_
          refine mj_if_eq (tgt := 141) dMod_isKept_118 (by decide) (fun hc => ?_) (fun hc => absurd (by decide) hc)
          refine mj_iconst (v := nI 0) dMod_isKept_141 (by decide) ?_
          refine mj_istore (L' := [_, _, _, _, _, _, _]) dMod_isKept_142 (by decide) rfl ?_
          refine mj_iload dMod_isKept_144 rfl ?_
          refine mj_if_ne (tgt := 170) dMod_isKept_146 (by decide) (fun hc => absurd (by decide) hc) (fun hc => ?_)
          refine mj_iload_n dMod_isKept_149 rfl ?_
          refine mj_if_ne (tgt := 174) dMod_isKept_150 (by decide) (fun hc => absurd (by decide) hc) (fun hc => ?_)
          refine mj_iload dMod_isKept_153 rfl ?_
          refine mj_iconst (v := nI 1) dMod_isKept_155 (by decide) ?_
          refine mj_icmp_eq (tgt := 165) dMod_isKept_156 (by decide) (fun hc => ?_) (fun hc => absurd (by decide) hc)
          refine mj_iload dMod_isKept_165 rfl ?_
          refine mj_if_eq (tgt := 174) dMod_isKept_167 (by decide) (fun hc => ?_) (fun hc => absurd (by decide) hc)
          refine mj_iconst (v := nI 0) dMod_isKept_174 (by decide) ?_
          refine mj_istore (L' := [_, _, _, _, _, _, _]) dMod_isKept_175 (by decide) rfl ?_
          refine mj_iload dMod_isKept_177 rfl ?_
          refine mj_if_ne (tgt := 197) dMod_isKept_179 (by decide) (fun hc => absurd (by decide) hc) (fun hc => ?_)
          refine mj_iload_n dMod_isKept_182 rfl ?_
          refine mj_if_eq (tgt := 199) dMod_isKept_183 (by decide) (fun hc => ?_) (fun hc => absurd (by decide) hc)
          exact next _ _ _ _ (by rw [hka]; rfl)
        · refine mj_iload_n dMod_isKept_117 rfl ?_
          refine mj_if_eq (tgt := 141) dMod_isKept_118 (by decide) (fun hc => ?_) (fun hc => absurd (by decide) hc)
          refine mj_iconst (v := nI 0) dMod_isKept_141 (by decide) ?_
          refine mj_istore (L' := [_, _, _, _, _, _, _]) dMod_isKept_142 (by decide) rfl ?_
          refine mj_iload dMod_isKept_144 rfl ?_
          refine mj_if_ne (tgt := 170) dMod_isKept_146 (by decide) (fun hc => absurd (by decide) hc) (fun hc => ?_)
          refine mj_iload_n dMod_isKept_149 rfl ?_
          refine mj_if_ne (tgt := 174) dMod_isKept_150 (by decide) (fun hc => absurd (by decide) hc) (fun hc => ?_)
          refine mj_iload dMod_isKept_153 rfl ?_
          refine mj_iconst (v := nI 1) dMod_isKept_155 (by decide) ?_
          refine mj_icmp_eq (tgt := 165) dMod_isKept_156 (by decide) (fun hc => absurd hc (by decide)) (fun hc => ?_)
          refine mj_iload dMod_isKept_159 rfl ?_
          refine mj_iconst (v := nI 2) dMod_isKept_161 (by decide) ?_
          refine mj_icmp_ne (tgt := 174) dMod_isKept_162 (by decide) (fun hc => absurd (by decide) hc) (fun hc => ?_)
          refine mj_iload dMod_isKept_165 rfl ?_
          refine mj_if_eq (tgt := 174) dMod_isKept_167 (by decide) (fun hc => ?_) (fun hc => absurd (by decide) hc)
          refine mj_iconst (v := nI 0) dMod_isKept_174 (by decide) ?_
          refine mj_istore (L' := [_, _, _, _, _, _, _]) dMod_isKept_175 (by decide) rfl ?_
          refine mj_iload dMod_isKept_177 rfl ?_
          refine mj_if_ne (tgt := 197) dMod_isKept_179 (by decide) (fun hc => absurd (by decide) hc) (fun hc => ?_)
          refine mj_iload_n dMod_isKept_182 rfl ?_
          refine mj_if_eq (tgt := 199) dMod_isKept_183 (by decide) (fun hc => ?_) (fun hc => absurd (by decide) hc)
          exact next _ _ _ _ (by rw [hka]; rfl)
        · refine mj_iload_n dMod_isKept_117 rfl ?_
          refine mj_if_eq (tgt := 141) dMod_isKept_118 (by decide) (fun hc => ?_) (fun hc => absurd (by decide) hc)
          refine mj_iconst (v := nI 0) dMod_isKept_141 (by decide) ?_
          refine mj_istore (L' := [_, _, _, _, _, _, _]) dMod_isKept_142 (by decide) rfl ?_
          refine mj_iload dMod_isKept_144 rfl ?_
          refine mj_if_ne (tgt := 170) dMod_isKept_146 (by decide) (fun hc => absurd (by decide) hc) (fun hc => ?_)
          refine mj_iload_n dMod_isKept_149 rfl ?_
          refine mj_if_ne (tgt := 174) dMod_isKept_150 (by decide) (fun hc => absurd (by decide) hc) (fun hc => ?_)
          refine mj_iload dMod_isKept_153 rfl ?_
          refine mj_iconst (v := nI 1) dMod_isKept_155 (by decide) ?_
          refine mj_icmp_eq (tgt := 165) dMod_isKept_156 (by decide) (fun hc => absurd hc (by decide)) (fun hc => ?_)
          refine mj_iload dMod_isKept_159 rfl ?_
          refine mj_iconst (v := nI 2) dMod_isKept_161 (by decide) ?_
          refine mj_icmp_ne (tgt := 174) dMod_isKept_162 (by decide) (fun hc => ?_) (fun hc => absurd hc (by decide))
          refine mj_iconst (v := nI 0) dMod_isKept_174 (by decide) ?_
          refine mj_istore (L' := [_, _, _, _, _, _, _]) dMod_isKept_175 (by decide) rfl ?_
          refine mj_iload dMod_isKept_177 rfl ?_
          refine mj_if_ne (tgt := 197) dMod_isKept_179 (by decide) (fun hc => absurd (by decide) hc) (fun hc => ?_)
          refine mj_iload_n dMod_isKept_182 rfl ?_
          refine mj_if_eq (tgt := 199) dMod_isKept_183 (by decide) (fun hc => ?_) (fun hc => absurd (by decide) hc)
          exact next _ _ _ _ (by rw [hka]; rfl)
        · refine mj_iload_n dMod_isKept_117 rfl ?_
          refine mj_if_eq (tgt := 141) dMod_isKept_118 (by decide) (fun hc => ?_) (fun hc => absurd (by decide) hc)
          refine mj_iconst (v := nI 0) dMod_isKept_141 (by decide) ?_
          refine mj_istore (L' := [_, _, _, _, _, _, _]) dMod_isKept_142 (by decide) rfl ?_
          refine mj_iload dMod_isKept_144 rfl ?_
          refine mj_if_ne (tgt := 170) dMod_isKept_146 (by decide) (fun hc => absurd (by decide) hc) (fun hc => ?_)
          refine mj_iload_n dMod_isKept_149 rfl ?_
          refine mj_if_ne (tgt := 174) dMod_isKept_150 (by decide) (fun hc => absurd (by decide) hc) (fun hc => ?_)
          refine mj_iload dMod_isKept_153 rfl ?_
          refine mj_iconst (v := nI 1) dMod_isKept_155 (by decide) ?_
          refine mj_icmp_eq (tgt := 165) dMod_isKept_156 (by decide) (fun hc => absurd hc (by decide)) (fun hc => ?_)
          refine mj_iload dMod_isKept_159 rfl ?_
          refine mj_iconst (v := nI 2) dMod_isKept_161 (by decide) ?_
          refine mj_icmp_ne (tgt := 174) dMod_isKept_162 (by decide) (fun hc => ?_) (fun hc => absurd hc (by decide))
          refine mj_iconst (v := nI 0) dMod_isKept_174 (by decide) ?_
          refine mj_istore (L' := [_, _, _, _, _, _, _]) dMod_isKept_175 (by decide) rfl ?_
          refine mj_iload dMod_isKept_177 rfl ?_
          refine mj_if_ne (tgt := 197) dMod_isKept_179 (by decide) (fun hc => absurd (by decide) hc) (fun hc => ?_)
          refine mj_iload_n dMod_isKept_182 rfl ?_
          refine mj_if_eq (tgt := 199) dMod_isKept_183 (by decide) (fun hc => ?_) (fun hc => absurd (by decide) hc)
          exact next _ _ _ _ (by rw [hka]; rfl)
        · refine mj_iload_n dMod_isKept_117 rfl ?_
          refine mj_if_eq (tgt := 141) dMod_isKept_118 (by decide) (fun hc => ?_) (fun hc => absurd (by decide) hc)
          refine mj_iconst (v := nI 0) dMod_isKept_141 (by decide) ?_
          refine mj_istore (L' := [_, _, _, _, _, _, _]) dMod_isKept_142 (by decide) rfl ?_
          refine mj_iload dMod_isKept_144 rfl ?_
          refine mj_if_ne (tgt := 170) dMod_isKept_146 (by decide) (fun hc => absurd (by decide) hc) (fun hc => ?_)
          refine mj_iload_n dMod_isKept_149 rfl ?_
          refine mj_if_ne (tgt := 174) dMod_isKept_150 (by decide) (fun hc => absurd (by decide) hc) (fun hc => ?_)
          refine mj_iload dMod_isKept_153 rfl ?_
          refine mj_iconst (v := nI 1) dMod_isKept_155 (by decide) ?_
          refine mj_icmp_eq (tgt := 165) dMod_isKept_156 (by decide) (fun hc => ?_) (fun hc => absurd (by decide) hc)
          refine mj_iload dMod_isKept_165 rfl ?_
          refine mj_if_eq (tgt := 174) dMod_isKept_167 (by decide) (fun hc => absurd hc (by decide)) (fun hc => ?_)
          refine mj_iconst (v := nI 1) dMod_isKept_170 (by decide) ?_
          refine mj_goto (tgt := 175) dMod_isKept_171 (by decide) ?_
          refine mj_istore (L' := [_, _, _, _, _, _, _]) dMod_isKept_175 (by decide) rfl ?_
          refine mj_iload dMod_isKept_177 rfl ?_
          refine mj_if_ne (tgt := 197) dMod_isKept_179 (by decide) (fun hc => ?_) (fun hc => absurd hc (by decide))
          exact bad _ _ _ _ (by rw [hka]; rfl)
        · refine mj_iload_n dMod_isKept_117 rfl ?_
          refine mj_if_eq (tgt := 141) dMod_isKept_118 (by decide) (fun hc => ?_) (fun hc => absurd (by decide) hc)
          refine mj_iconst (v := nI 0) dMod_isKept_141 (by decide) ?_
          refine mj_istore (L' := [_, _, _, _, _, _, _]) dMod_isKept_142 (by decide) rfl ?_
          refine mj_iload dMod_isKept_144 rfl ?_
          refine mj_if_ne (tgt := 170) dMod_isKept_146 (by decide) (fun hc => absurd (by decide) hc) (fun hc => ?_)
          refine mj_iload_n dMod_isKept_149 rfl ?_
          refine mj_if_ne (tgt := 174) dMod_isKept_150 (by decide) (fun hc => absurd (by decide) hc) (fun hc => ?_)
          refine mj_iload dMod_isKept_153 rfl ?_
          refine mj_iconst (v := nI 1) dMod_isKept_155 (by decide) ?_
          refine mj_icmp_eq (tgt := 165) dMod_isKept_156 (by decide) (fun hc => absurd hc (by decide)) (fun hc => ?_)
          refine mj_iload dMod_isKept_159 rfl ?_
          refine mj_iconst (v := nI 2) dMod_isKept_161 (by decide) ?_
          refine mj_icmp_ne (tgt := 174) dMod_isKept_162 (by decide) (fun hc => absurd (by decide) hc) (fun hc => ?_)
          refine mj_iload dMod_isKept_165 rfl ?_
          refine mj_if_eq (tgt := 174) dMod_isKept_167 (by decide) (fun hc => absurd hc (by decide)) (fun hc => ?_)
          refine mj_iconst (v := nI 1) dMod_isKept_170 (by decide) ?_
          refine mj_goto (tgt := 175) dMod_isKept_171 (by decide) ?_
          refine mj_istore (L' := [_, _, _, _, _, _, _]) dMod_isKept_175 (by decide) rfl ?_
          refine mj_iload dMod_isKept_177 rfl ?_
          refine mj_if_ne (tgt := 197) dMod_isKept_179 (by decide) (fun hc => ?_) (fun hc => absurd hc (by decide))
          exact bad _ _ _ _ (by rw [hka]; rfl)
        · refine mj_iload_n dMod_isKept_117 rfl ?_
          refine mj_if_eq (tgt := 141) dMod_isKept_118 (by decide) (fun hc => ?_) (fun hc => absurd (by decide) hc)
          refine mj_iconst (v := nI 0) dMod_isKept_141 (by decide) ?_
          refine mj_istore (L' := [_, _, _, _, _, _, _]) dMod_isKept_142 (by decide) rfl ?_
          refine mj_iload dMod_isKept_144 rfl ?_
          refine mj_if_ne (tgt := 170) dMod_isKept_146 (by decide) (fun hc => absurd (by decide) hc) (fun hc => ?_)
          refine mj_iload_n dMod_isKept_149 rfl ?_
          refine mj_if_ne (tgt := 174) dMod_isKept_150 (by decide) (fun hc => absurd (by decide) hc) (fun hc => ?_)
          refine mj_iload dMod_isKept_153 rfl ?_
          refine mj_iconst (v := nI 1) dMod_isKept_155 (by decide) ?_
          refine mj_icmp_eq (tgt := 165) dMod_isKept_156 (by decide) (fun hc => absurd hc (by decide)) (fun hc => ?_)
          refine mj_iload dMod_isKept_159 rfl ?_
          refine mj_iconst (v := nI 2) dMod_isKept_161 (by decide) ?_
          refine mj_icmp_ne (tgt := 174) dMod_isKept_162 (by decide) (fun hc => ?_) (fun hc => absurd hc (by decide))
          refine mj_iconst (v := nI 0) dMod_isKept_174 (by decide) ?_
          refine mj_istore (L' := [_, _, _, _, _, _, _]) dMod_isKept_175 (by decide) rfl ?_
          refine mj_iload dMod_isKept_177 rfl ?_
          refine mj_if_ne (tgt := 197) dMod_isKept_179 (by decide) (fun hc => absurd (by decide) hc) (fun hc => ?_)
          refine mj_iload_n dMod_isKept_182 rfl ?_
          refine mj_if_eq (tgt := 199) dMod_isKept_183 (by decide) (fun hc => ?_) (fun hc => absurd (by decide) hc)
          exact next _ _ _ _ (by rw [hka]; rfl)
        · refine mj_iload_n dMod_isKept_117 rfl ?_
          refine mj_if_eq (tgt := 141) dMod_isKept_118 (by decide) (fun hc => absurd hc (by decide)) (fun hc => ?_)
          refine mj_iload dMod_isKept_121 rfl ?_
          refine mj_if_eq (tgt := 132) dMod_isKept_123 (by decide) (fun hc => ?_) (fun hc => absurd (by decide) hc)
          refine mj_iload dMod_isKept_132 rfl ?_
          refine mj_if_ne (tgt := 141) dMod_isKept_134 (by decide) (fun hc => absurd (by decide) hc) (fun hc => ?_)
          refine mj_iconst (v := nI 1) dMod_isKept_137 (by decide) ?_
          refine mj_goto (tgt := 142) dMod_isKept_138 (by decide) ?_
          refine mj_istore (L' := [_, _, _, _, _, _, _]) dMod_isKept_142 (by decide) rfl ?_
          refine mj_iload dMod_isKept_144 rfl ?_
          refine mj_if_ne (tgt := 170) dMod_isKept_146 (by decide) (fun hc => ?_) (fun hc => absurd hc (by decide))
          refine mj_iconst (v := nI 1) dMod_isKept_170 (by decide) ?_
          refine mj_goto (tgt := 175) dMod_isKept_171 (by decide) ?_
          refine mj_istore (L' := [_, _, _, _, _, _, _]) dMod_isKept_175 (by decide) rfl ?_
          refine mj_iload dMod_isKept_177 rfl ?_
          refine mj_if_ne (tgt := 197) dMod_isKept_179 (by decide) (fun hc => ?_) (fun hc => absurd hc (by decide))
          exact bad _ _ _ _ (by rw [hka]; rfl)
        · refine mj_iload_n dMod_isKept_117 rfl ?_
          refine mj_if_eq (tgt := 141) dMod_isKept_118 (by decide) (fun hc => absurd hc (by decide)) (fun hc => ?_)
          refine mj_iload dMod_isKept_121 rfl ?_
          refine mj_if_eq (tgt := 132) dMod_isKept_123 (by decide) (fun hc => absurd hc (by decide)) (fun hc => ?_)
          refine mj_iload dMod_isKept_126 rfl ?_
          refine mj_iconst (v := nI 2) dMod_isKept_128 (by decide) ?_
          refine mj_icmp_ne (tgt := 141) dMod_isKept_129 (by decide) (fun hc => ?_) (fun hc => absurd hc (by decide))
          refine mj_iconst (v := nI 0) dMod_isKept_141 (by decide) ?_
          refine mj_istore (L' := [_, _, _, _, _, _, _]) dMod_isKept_142 (by decide) rfl ?_
          refine mj_iload dMod_isKept_144 rfl ?_
          refine mj_if_ne (tgt := 170) dMod_isKept_146 (by decide) (fun hc => absurd (by decide) hc) (fun hc => ?_)
          refine mj_iload_n dMod_isKept_149 rfl ?_
          refine mj_if_ne (tgt := 174) dMod_isKept_150 (by decide) (fun hc => ?_) (fun hc => absurd hc (by decide))
          refine mj_iconst (v := nI 0) dMod_isKept_174 (by decide) ?_
          refine mj_istore (L' := [_, _, _, _, _, _, _]) dMod_isKept_175 (by decide) rfl ?_
          refine mj_iload dMod_isKept_177 rfl ?_
          refine mj_if_ne (tgt := 197) dMod_isKept_179 (by decide) (fun hc => absurd (by decide) hc) (fun hc => ?_)
          refine mj_iload_n dMod_isKept_182 rfl ?_
          refine mj_if_eq (tgt := 199) dMod_isKept_183 (by decide) (fun hc => absurd hc (by decide)) (fun hc => ?_)
          refine mj_iload dMod_isKept_186 rfl ?_
          refine mj_iconst (v := nI 3) dMod_isKept_188 (by decide) ?_
          refine mj_icmp_ne (tgt := 199) dMod_isKept_189 (by decide) (fun hc => ?_) (fun hc => absurd hc (by decide))
          exact next _ _ _ _ (by rw [hka]; rfl)
        · refine mj_iload_n dMod_isKept_117 rfl ?_
          refine mj_if_eq (tgt := 141) dMod_isKept_118 (by decide) (fun hc => absurd hc (by decide)) (fun hc => ?_)
          refine mj_iload dMod_isKept_121 rfl ?_
          refine mj_if_eq (tgt := 132) dMod_isKept_123 (by decide) (fun hc => absurd hc (by decide)) (fun hc => ?_)
          refine mj_iload dMod_isKept_126 rfl ?_
          refine mj_iconst (v := nI 2) dMod_isKept_128 (by decide) ?_
          refine mj_icmp_ne (tgt := 141) dMod_isKept_129 (by decide) (fun hc => absurd (by decide) hc) (fun hc => ?_)
          refine mj_iload dMod_isKept_132 rfl ?_
          refine mj_if_ne (tgt := 141) dMod_isKept_134 (by decide) (fun hc => absurd (by decide) hc) (fun hc => ?_)
          refine mj_iconst (v := nI 1) dMod_isKept_137 (by decide) ?_
          refine mj_goto (tgt := 142) dMod_isKept_138 (by decide) ?_
          refine mj_istore (L' := [_, _, _, _, _, _, _]) dMod_isKept_142 (by decide) rfl ?_
          refine mj_iload dMod_isKept_144 rfl ?_
          refine mj_if_ne (tgt := 170) dMod_isKept_146 (by decide) (fun hc => ?_) (fun hc => absurd hc (by decide))
          refine mj_iconst (v := nI 1) dMod_isKept_170 (by decide) ?_
          refine mj_goto (tgt := 175) dMod_isKept_171 (by decide) ?_
          refine mj_istore (L' := [_, _, _, _, _, _, _]) dMod_isKept_175 (by decide) rfl ?_
          refine mj_iload dMod_isKept_177 rfl ?_
          refine mj_if_ne (tgt := 197) dMod_isKept_179 (by decide) (fun hc => ?_) (fun hc => absurd hc (by decide))
          exact bad _ _ _ _ (by rw [hka]; rfl)
        · refine mj_iload_n dMod_isKept_117 rfl ?_
          refine mj_if_eq (tgt := 141) dMod_isKept_118 (by decide) (fun hc => absurd hc (by decide)) (fun hc => ?_)
          refine mj_iload dMod_isKept_121 rfl ?_
          refine mj_if_eq (tgt := 132) dMod_isKept_123 (by decide) (fun hc => absurd hc (by decide)) (fun hc => ?_)
          refine mj_iload dMod_isKept_126 rfl ?_
          refine mj_iconst (v := nI 2) dMod_isKept_128 (by decide) ?_
          refine mj_icmp_ne (tgt := 141) dMod_isKept_129 (by decide) (fun hc => ?_) (fun hc => absurd hc (by decide))
          refine mj_iconst (v := nI 0) dMod_isKept_141 (by decide) ?_
          refine mj_istore (L' := [_, _, _, _, _, _, _]) dMod_isKept_142 (by decide) rfl ?_
          refine mj_iload dMod_isKept_144 rfl ?_
          refine mj_if_ne (tgt := 170) dMod_isKept_146 (by decide) (fun hc => absurd (by decide) hc) (fun hc => ?_)
          refine mj_iload_n dMod_isKept_149 rfl ?_
          refine mj_if_ne (tgt := 174) dMod_isKept_150 (by decide) (fun hc => ?_) (fun hc => absurd hc (by decide))
          refine mj_iconst (v := nI 0) dMod_isKept_174 (by decide) ?_
          refine mj_istore (L' := [_, _, _, _, _, _, _]) dMod_isKept_175 (by decide) rfl ?_
          refine mj_iload dMod_isKept_177 rfl ?_
          refine mj_if_ne (tgt := 197) dMod_isKept_179 (by decide) (fun hc => absurd (by decide) hc) (fun hc => ?_)
          refine mj_iload_n dMod_isKept_182 rfl ?_
          refine mj_if_eq (tgt := 199) dMod_isKept_183 (by decide) (fun hc => absurd hc (by decide)) (fun hc => ?_)
          refine mj_iload dMod_isKept_186 rfl ?_
          refine mj_iconst (v := nI 3) dMod_isKept_188 (by decide) ?_
          refine mj_icmp_ne (tgt := 199) dMod_isKept_189 (by decide) (fun hc => absurd (by decide) hc) (fun hc => ?_)
          refine mj_iload dMod_isKept_192 rfl ?_
          refine mj_if_eq (tgt := 199) dMod_isKept_194 (by decide) (fun hc => ?_) (fun hc => absurd (by decide) hc)
          exact next _ _ _ _ (by rw [hka]; rfl)
        · refine mj_iload_n dMod_isKept_117 rfl ?_
          refine mj_if_eq (tgt := 141) dMod_isKept_118 (by decide) (fun hc => absurd hc (by decide)) (fun hc => ?_)
          refine mj_iload dMod_isKept_121 rfl ?_
          refine mj_if_eq (tgt := 132) dMod_isKept_123 (by decide) (fun hc => ?_) (fun hc => absurd (by decide) hc)
          refine mj_iload dMod_isKept_132 rfl ?_
          refine mj_if_ne (tgt := 141) dMod_isKept_134 (by decide) (fun hc => ?_) (fun hc => absurd hc (by decide))
          refine mj_iconst (v := nI 0) dMod_isKept_141 (by decide) ?_
          refine mj_istore (L' := [_, _, _, _, _, _, _]) dMod_isKept_142 (by decide) rfl ?_
          refine mj_iload dMod_isKept_144 rfl ?_
          refine mj_if_ne (tgt := 170) dMod_isKept_146 (by decide) (fun hc => absurd (by decide) hc) (fun hc => ?_)
          refine mj_iload_n dMod_isKept_149 rfl ?_
          refine mj_if_ne (tgt := 174) dMod_isKept_150 (by decide) (fun hc => ?_) (fun hc => absurd hc (by decide))
          refine mj_iconst (v := nI 0) dMod_isKept_174 (by decide) ?_
          refine mj_istore (L' := [_, _, _, _, _, _, _]) dMod_isKept_175 (by decide) rfl ?_
          refine mj_iload dMod_isKept_177 rfl ?_
          refine mj_if_ne (tgt := 197) dMod_isKept_179 (by decide) (fun hc => absurd (by decide) hc) (fun hc => ?_)
          refine mj_iload_n dMod_isKept_182 rfl ?_
          refine mj_if_eq (tgt := 199) dMod_isKept_183 (by decide) (fun hc => absurd hc (by decide)) (fun hc => ?_)
          refine mj_iload dMod_isKept_186 rfl ?_
          refine mj_iconst (v := nI 3) dMod_isKept_188 (by decide) ?_
          refine mj_icmp_ne (tgt := 199) dMod_isKept_189 (by decide) (fun hc => ?_) (fun hc => absurd hc (by decide))
          exact next _ _ _ _ (by rw [hka]; rfl)
        · refine mj_iload_n dMod_isKept_117 rfl ?_
          refine mj_if_eq (tgt := 141) dMod_isKept_118 (by decide) (fun hc => absurd hc (by decide)) (fun hc => ?_)
          refine mj_iload dMod_isKept_121 rfl ?_
          refine mj_if_eq (tgt := 132) dMod_isKept_123 (by decide) (fun hc => absurd hc (by decide)) (fun hc => ?_)
          refine mj_iload dMod_isKept_126 rfl ?_
          refine mj_iconst (v := nI 2) dMod_isKept_128 (by decide) ?_
          refine mj_icmp_ne (tgt := 141) dMod_isKept_129 (by decide) (fun hc => ?_) (fun hc => absurd hc (by decide))
          refine mj_iconst (v := nI 0) dMod_isKept_141 (by decide) ?_
          refine mj_istore (L' := [_, _, _, _, _, _, _]) dMod_isKept_142 (by decide) rfl ?_
          refine mj_iload dMod_isKept_144 rfl ?_
          refine mj_if_ne (tgt := 170) dMod_isKept_146 (by decide) (fun hc => absurd (by decide) hc) (fun hc => ?_)
          refine mj_iload_n dMod_isKept_149 rfl ?_
          refine mj_if_ne (tgt := 174) dMod_isKept_150 (by decide) (fun hc => ?_) (fun hc => absurd hc (by decide))
          refine mj_iconst (v := nI 0) dMod_isKept_174 (by decide) ?_
          refine mj_istore (L' := [_, _, _, _, _, _, _]) dMod_isKept_175 (by decide) rfl ?_
          refine mj_iload dMod_isKept_177 rfl ?_
          refine mj_if_ne (tgt := 197) dMod_isKept_179 (by decide) (fun hc => absurd (by decide) hc) (fun hc => ?_)
          refine mj_iload_n dMod_isKept_182 rfl ?_
          refine mj_if_eq (tgt := 199) dMod_isKept_183 (by decide) (fun hc => absurd hc (by decide)) (fun hc => ?_)
          refine mj_iload dMod_isKept_186 rfl ?_
          refine mj_iconst (v := nI 3) dMod_isKept_188 (by decide) ?_
          refine mj_icmp_ne (tgt := 199) dMod_isKept_189 (by decide) (fun hc => ?_) (fun hc => absurd hc (by decide))
          exact next _ _ _ _ (by rw [hka]; rfl)
        · refine mj_iload_n dMod_isKept_117 rfl ?_
          refine mj_if_eq (tgt := 141) dMod_isKept_118 (by decide) (fun hc => absurd hc (by decide)) (fun hc => ?_)
          refine mj_iload dMod_isKept_121 rfl ?_
          refine mj_if_eq (tgt := 132) dMod_isKept_123 (by decide) (fun hc => absurd hc (by decide)) (fun hc => ?_)
          refine mj_iload dMod_isKept_126 rfl ?_
          refine mj_iconst (v := nI 2) dMod_isKept_128 (by decide) ?_
          refine mj_icmp_ne (tgt := 141) dMod_isKept_129 (by decide) (fun hc => absurd (by decide) hc) (fun hc => ?_)
          refine mj_iload dMod_isKept_132 rfl ?_
          refine mj_if_ne (tgt := 141) dMod_isKept_134 (by decide) (fun hc => ?_) (fun hc => absurd hc (by decide))
          refine mj_iconst (v := nI 0) dMod_isKept_141 (by decide) ?_
          refine mj_istore (L' := [_, _, _, _, _, _, _]) dMod_isKept_142 (by decide) rfl ?_
          refine mj_iload dMod_isKept_144 rfl ?_
          refine mj_if_ne (tgt := 170) dMod_isKept_146 (by decide) (fun hc => absurd (by decide) hc) (fun hc => ?_)
          refine mj_iload_n dMod_isKept_149 rfl ?_
          refine mj_if_ne (tgt := 174) dMod_isKept_150 (by decide) (fun hc => ?_) (fun hc => absurd hc (by decide))
          refine mj_iconst (v := nI 0) dMod_isKept_174 (by decide) ?_
          refine mj_istore (L' := [_, _, _, _, _, _, _]) dMod_isKept_175 (by decide) rfl ?_
          refine mj_iload dMod_isKept_177 rfl ?_
          refine mj_if_ne (tgt := 197) dMod_isKept_179 (by decide) (fun hc => absurd (by decide) hc) (fun hc => ?_)
          refine mj_iload_n dMod_isKept_182 rfl ?_
          refine mj_if_eq (tgt := 199) dMod_isKept_183 (by decide) (fun hc => absurd hc (by decide)) (fun hc => ?_)
          refine mj_iload dMod_isKept_186 rfl ?_
          refine mj_iconst (v := nI 3) dMod_isKept_188 (by decide) ?_
          refine mj_icmp_ne (tgt := 199) dMod_isKept_189 (by decide) (fun hc => ?_) (fun hc => absurd hc (by decide))
          exact next _ _ _ _ (by rw [hka]; rfl)
        · refine mj_iload_n dMod_isKept_117 rfl ?_
          refine mj_if_eq (tgt := 141) dMod_isKept_118 (by decide) (fun hc => absurd hc (by decide)) (fun hc => ?_)
          refine mj_iload dMod_isKept_121 rfl ?_
          refine mj_if_eq (tgt := 132) dMod_isKept_123 (by decide) (fun hc => absurd hc (by decide)) (fun hc => ?_)
          refine mj_iload dMod_isKept_126 rfl ?_
          refine mj_iconst (v := nI 2) dMod_isKept_128 (by decide) ?_
          refine mj_icmp_ne (tgt := 141) dMod_isKept_129 (by decide) (fun hc => ?_) (fun hc => absurd hc (by decide))
          refine mj_iconst (v := nI 0) dMod_isKept_141 (by decide) ?_
          refine mj_istore (L' := [_, _, _, _, _, _, _]) dMod_isKept_142 (by decide) rfl ?_
          refine mj_iload dMod_isKept_144 rfl ?_
          refine mj_if_ne (tgt := 170) dMod_isKept_146 (by decide) (fun hc => absurd (by decide) hc) (fun hc => ?_)
          refine mj_iload_n dMod_isKept_149 rfl ?_
          refine mj_if_ne (tgt := 174) dMod_isKept_150 (by decide) (fun hc => ?_) (fun hc => absurd hc (by decide))
          refine mj_iconst (v := nI 0) dMod_isKept_174 (by decide) ?_
          refine mj_istore (L' := [_, _, _, _, _, _, _]) dMod_isKept_175 (by decide) rfl ?_
          refine mj_iload dMod_isKept_177 rfl ?_
          refine mj_if_ne (tgt := 197) dMod_isKept_179 (by decide) (fun hc => absurd (by decide) hc) (fun hc => ?_)
          refine mj_iload_n dMod_isKept_182 rfl ?_
          refine mj_if_eq (tgt := 199) dMod_isKept_183 (by decide) (fun hc => absurd hc (by decide)) (fun hc => ?_)
          refine mj_iload dMod_isKept_186 rfl ?_
          refine mj_iconst (v := nI 3) dMod_isKept_188 (by decide) ?_
          refine mj_icmp_ne (tgt := 199) dMod_isKept_189 (by decide) (fun hc => absurd (by decide) hc) (fun hc => ?_)
          refine mj_iload dMod_isKept_192 rfl ?_
          refine mj_if_eq (tgt := 199) dMod_isKept_194 (by decide) (fun hc => absurd hc (by decide)) (fun hc => ?_)
          exact bad _ _ _ _ (by rw [hka]; rfl)
      have t66 : ∀ (j2 c : Nat) (acc : Bool) (y6 : Option Value) (own : Bool), c + j2 = V.2.2.1 r → (ownB V row r i || (V.1.getD (row.getD i 0) (0, 0)).1 == (V.1.getD (V.2.1.getD r (0, 0)).2 (0, 0)).1) = true → own = ownB V row r i → (acc || (List.range' c j2).any (fun c => holdB V row (2 * r + c) i)) = someB V row r i → Mj (l, G, d + 5, m, fun o μ' => o = .inl (some (.int (bI (keptB V row r)))) ∧ μ' = μ) mMod_isKept 66 [some (.ref m), some (.int (nI r)), some (.int (nI i)), some (.int (bI own)), some (.int (bI acc)), some (.int (nI c)), y6] [] μ := by
        intro j2
        induction j2 with
        | zero =>
          intro c acc y6 own hcj hrel ho hs
          refine mj_iload dMod_isKept_66 rfl ?_
          refine mj_aload_n dMod_isKept_68 rfl ?_
          refine mj_get dMod_isKept_69 fg_Mod_22 rfl ?_
          refine mj_iload_n dMod_isKept_72 rfl ?_
          refine mj_iaload dMod_isKept_73 (by decide) rfl (show _ < 4 by omega) (by decide) ?_
          rw [v5 r (by omega)]
          refine mj_icmp_ge (tgt := 109) dMod_isKept_74 (by decide) (fun hc => ?_) (fun hc => ?_)
          · exact t109 _ _ own acc hrel ho (by rw [← hs]; simp)
          · exact absurd (nI_le (by omega) (by omega)) hc
        | succ j2 ih2 =>
          intro c acc y6 own hcj hrel ho hs
          rw [List.range'_succ, List.any_cons, ← Bool.or_assoc] at hs
          have nx : ∀ z : Bool, z = (acc || holdB V row (2 * r + c) i) → Mj (l, G, d + 5, m, fun o μ' => o = .inl (some (.int (bI (keptB V row r)))) ∧ μ' = μ) mMod_isKept 101 [some (.ref m), some (.int (nI r)), some (.int (nI i)), some (.int (bI own)), some (.int (bI acc)), some (.int (nI c)), y6] [.int (bI z)] μ := by
            intro z hz
            refine mj_istore (L' := [_, _, _, _, _, _, _]) dMod_isKept_101 (by decide) rfl ?_
            refine mj_iinc (L' := [_, _, _, _, _, _, _]) dMod_isKept_103 rfl rfl (by decide) rfl ?_
            refine mj_goto (tgt := 66) dMod_isKept_106 (by decide) ?_
            rw [show nI c + Int32.ofInt 1 = nI (c + 1) from nI_1 c]
            exact ih2 (c + 1) z y6 own (by omega) hrel ho (by rw [hz]; exact hs)
          refine mj_iload dMod_isKept_66 rfl ?_
          refine mj_aload_n dMod_isKept_68 rfl ?_
          refine mj_get dMod_isKept_69 fg_Mod_22 rfl ?_
          refine mj_iload_n dMod_isKept_72 rfl ?_
          refine mj_iaload dMod_isKept_73 (by decide) rfl (show _ < 4 by omega) (by decide) ?_
          rw [v5 r (by omega)]
          refine mj_icmp_ge (tgt := 109) dMod_isKept_74 (by decide) (fun hc => ?_) (fun hc => ?_)
          · exact absurd hc (nI_ge (by omega) (by omega))
          refine mj_iload dMod_isKept_77 rfl ?_
          refine mj_if_ne (tgt := 96) dMod_isKept_79 (by decide) (fun hc2 => ?_) (fun hc2 => ?_)
          · refine mj_iconst (v := nI 1) dMod_isKept_96 (by decide) ?_
            refine mj_goto (tgt := 101) dMod_isKept_97 (by decide) ?_
            exact nx true (by rw [bI_1 hc2]; rfl)
          refine mj_aload_n dMod_isKept_82 rfl ?_
          refine mj_iconst (v := nI 2) dMod_isKept_83 (by decide) ?_
          refine mj_iload_n dMod_isKept_84 rfl ?_
          refine mj_imul dMod_isKept_85 ?_
          refine mj_iload dMod_isKept_86 rfl ?_
          refine mj_iadd dMod_isKept_88 ?_
          refine mj_iload_n dMod_isKept_89 rfl ?_
          rw [show nI 2 * nI r = nI (2 * r) from pk_mul _ _, nI_add]
          refine mj_p2 dMod_isKept_90 ip_Mod_147 cd_Mod_holds ar_Mod_holds (c_Mod_holds (d := d) (c := 2 * r + c) (i := i) (by omega) (by omega) HV HR) (by dsimp only; omega) (Nat.le_of_ble_eq_true rfl) (fun E m9 q9 => by simp at q9) (fun v9 μ9 hq => ?_)
          obtain ⟨e, e1⟩ := hq
          cases e
          rw [e1]
          refine mj_if_eq (tgt := 100) dMod_isKept_93 (by decide) (fun hc3 => ?_) (fun hc3 => ?_)
          · refine mj_iconst (v := nI 0) dMod_isKept_100 (by decide) ?_
            exact nx false (by rw [bI_0.mp hc2, bI_0.mp hc3]; rfl)
          · refine mj_iconst (v := nI 1) dMod_isKept_96 (by decide) ?_
            refine mj_goto (tgt := 101) dMod_isKept_97 (by decide) ?_
            exact nx true (by rw [bI_1 hc3, Bool.or_true])
      have t30 : ∀ (own : Bool) y3 y4 y5 y6, own = ownB V row r i → Mj (l, G, d + 5, m, fun o μ' => o = .inl (some (.int (bI (keptB V row r)))) ∧ μ' = μ) mMod_isKept 30 [some (.ref m), some (.int (nI r)), some (.int (nI i)), y3, y4, y5, y6] [.int (bI own)] μ := by
        intro own y3 y4 y5 y6 ho
        refine mj_istore_n (L' := [_, _, _, _, _, _, _]) dMod_isKept_30 (by decide) rfl ?_
        refine mj_iload_n dMod_isKept_31 rfl ?_
        refine mj_if_ne (tgt := 60) dMod_isKept_32 (by decide) (fun hc9 => ?_) (fun hc9 => ?_)
        · refine mj_iconst (v := nI 0) dMod_isKept_60 (by decide) ?_
          refine mj_istore (L' := [_, _, _, _, _, _, _]) dMod_isKept_61 (by decide) rfl ?_
          refine mj_iconst (v := nI 0) dMod_isKept_63 (by decide) ?_
          refine mj_istore (L' := [_, _, _, _, _, _, _]) dMod_isKept_64 (by decide) rfl ?_
          exact t66 (V.2.2.1 r) 0 false _ own (by omega) (by rw [← ho, bI_1 hc9]; rfl) ho (by rw [Bool.false_or]; rfl)
        refine mj_aload_n dMod_isKept_35 rfl ?_
        refine mj_get dMod_isKept_36 fg_Mod_7 rfl ?_
        refine mj_aload_n dMod_isKept_39 rfl ?_
        refine mj_get dMod_isKept_40 fg_Mod_92 rfl ?_
        refine mj_iload_n dMod_isKept_43 rfl ?_
        refine mj_iaload dMod_isKept_44 (by decide) rfl (show _ < 12 by omega) (by decide) ?_
        rw [w2 i (by omega)]
        refine mj_iaload dMod_isKept_45 (by decide) rfl (show _ < 10 by omega) (by decide) ?_
        rw [(v3 _ hri).1]
        refine mj_aload_n dMod_isKept_46 rfl ?_
        refine mj_get dMod_isKept_47 fg_Mod_7 rfl ?_
        refine mj_aload_n dMod_isKept_50 rfl ?_
        refine mj_get dMod_isKept_51 fg_Mod_19 rfl ?_
        refine mj_iload_n dMod_isKept_54 rfl ?_
        refine mj_iaload dMod_isKept_55 (by decide) rfl (show _ < 4 by omega) (by decide) ?_
        rw [(v4 r hr4).2]
        refine mj_iaload dMod_isKept_56 (by decide) rfl (show _ < 10 by omega) (by decide) ?_
        rw [(v3 _ hrm.2).1]
        have b1 := (v9 _ (getD_mem (d := (0, 0)) hri)).1
        have b2 := (v9 _ (getD_mem (d := (0, 0)) hrm.2)).1
        refine mj_icmp_ne (tgt := 199) dMod_isKept_57 (by decide) (fun hc8 => ?_) (fun hc8 => ?_)
        · have q : ¬ (V.1.getD (row.getD i 0) (0, 0)).1 = (V.1.getD (V.2.1.getD r (0, 0)).2 (0, 0)).1 := fun z => hc8 (by rw [z])
          exact next _ _ _ _ (by unfold keptAt; rw [if_neg (by rw [← ho, bI_0.mp hc9]; simpa using q)])
        refine mj_iconst (v := nI 0) dMod_isKept_60 (by decide) ?_
        refine mj_istore (L' := [_, _, _, _, _, _, _]) dMod_isKept_61 (by decide) rfl ?_
        refine mj_iconst (v := nI 0) dMod_isKept_63 (by decide) ?_
        refine mj_istore (L' := [_, _, _, _, _, _, _]) dMod_isKept_64 (by decide) rfl ?_
        exact t66 (V.2.2.1 r) 0 false _ own (by omega) (by rw [show ((V.1.getD (row.getD i 0) (0, 0)).1 == (V.1.getD (V.2.1.getD r (0, 0)).2 (0, 0)).1) = true from by simpa using (nI_eq (by omega) (by omega)).mp hc8, Bool.or_true]) ho (by rw [Bool.false_or]; rfl)
      refine mj_iload_n dMod_isKept_2 rfl ?_
      refine mj_aload_n dMod_isKept_3 rfl ?_
      refine mj_get dMod_isKept_4 fg_Mod_144 rfl ?_
      rw [w1]
      refine mj_icmp_ge (tgt := 205) dMod_isKept_7 (by decide) (fun hc => ?_) (fun hc => ?_)
      · exact absurd hc (nI_ge (by omega) (by omega))
      refine mj_aload_n dMod_isKept_10 rfl ?_
      refine mj_get dMod_isKept_11 fg_Mod_92 rfl ?_
      refine mj_iload_n dMod_isKept_14 rfl ?_
      refine mj_iaload dMod_isKept_15 (by decide) rfl (show _ < 12 by omega) (by decide) ?_
      rw [w2 i (by omega)]
      refine mj_aload_n dMod_isKept_16 rfl ?_
      refine mj_get dMod_isKept_17 fg_Mod_19 rfl ?_
      refine mj_iload_n dMod_isKept_20 rfl ?_
      refine mj_iaload dMod_isKept_21 (by decide) rfl (show _ < 4 by omega) (by decide) ?_
      rw [(v4 r hr4).2]
      refine mj_icmp_ne (tgt := 29) dMod_isKept_22 (by decide) (fun hc2 => ?_) (fun hc2 => ?_)
      · refine mj_iconst (v := nI 0) dMod_isKept_29 (by decide) ?_
        have q : ¬ row.getD i 0 = (V.2.1.getD r (0, 0)).2 := fun z => hc2 (by rw [z])
        exact t30 false _ _ _ _ (by unfold ownB; rw [show (row.getD i 0 == (V.2.1.getD r (0, 0)).2) = false from by rw [beq_eq_false_iff_ne]; exact q])
      refine mj_iconst (v := nI 1) dMod_isKept_25 (by decide) ?_
      refine mj_goto (tgt := 30) dMod_isKept_26 (by decide) ?_
      exact t30 true _ _ _ _ (by unfold ownB; rw [show (row.getD i 0 == (V.2.1.getD r (0, 0)).2) = true from by rw [beq_iff_eq]; exact (nI_eq (by omega) (by have := hrm.2; omega)).mp hc2])
  refine mc_of (L := [_, _, _, _, _, _, _]) (by decide) (Nat.le_of_ble_eq_true rfl) rfl ?_
  refine mj_iconst (v := nI 0) dMod_isKept_0 (by decide) ?_
  refine mj_istore_n (L' := [_, _, _, _, _, _, _]) dMod_isKept_1 (by decide) rfl ?_
  exact outer row.length 0 _ _ _ _ (by omega) rfl
theorem c_Mod_keepsAll (HV : Rv μ V) (HR : Rr μ V row) : Mc l G mMod_keepsAll (d + 6) m [.ref m] μ (fun o μ' => o = .inl (some (.int (bI (keepsB V row)))) ∧ μ' = μ) := by
  obtain ⟨v1, v2, v3, v4, v5, v6, v7, v8, v9, v10, v11, v12, v13, v14⟩ := id HV
  have loop : ∀ (j i : Nat) (acc : Bool), i + j = V.2.1.length → (acc && (List.range' i j).all (keptB V row)) = keepsB V row → Mj (l, G, d + 6, m, fun o μ' => o = .inl (some (.int (bI (keepsB V row)))) ∧ μ' = μ) mMod_keepsAll 4 [some (.ref m), some (.int (bI acc)), some (.int (nI i))] [] μ := by
    intro j
    induction j with
    | zero =>
      intro i acc hij hr
      refine mj_iload_n dMod_keepsAll_4 rfl ?_
      refine mj_aload_n dMod_keepsAll_5 rfl ?_
      refine mj_get dMod_keepsAll_6 fg_Mod_121 rfl ?_
      rw [v2]
      refine mj_icmp_ge (tgt := 36) dMod_keepsAll_9 (by decide) (fun hc => ?_) (fun hc => ?_)
      · refine mj_iload_n dMod_keepsAll_36 rfl ?_
        exact mj_zret dMod_keepsAll_37 rfl (bI_01 _) ⟨by rw [← hr]; simp, rfl⟩
      · exact absurd (nI_le (by omega) (by omega)) hc
    | succ j ih =>
      intro i acc hij hr
      rw [List.range'_succ, List.all_cons, ← Bool.and_assoc] at hr
      have next : ∀ z : Bool, z = (acc && keptB V row i) → Mj (l, G, d + 6, m, fun o μ' => o = .inl (some (.int (bI (keepsB V row)))) ∧ μ' = μ) mMod_keepsAll 29 [some (.ref m), some (.int (bI acc)), some (.int (nI i))] [.int (bI z)] μ := by
        intro z hz
        refine mj_istore_n (L' := [_, _, _]) dMod_keepsAll_29 (by decide) rfl ?_
        refine mj_iinc (L' := [_, _, _]) dMod_keepsAll_30 rfl rfl (by decide) rfl ?_
        refine mj_goto (tgt := 4) dMod_keepsAll_33 (by decide) ?_
        rw [show nI i + Int32.ofInt 1 = nI (i + 1) from nI_1 i]
        exact ih (i + 1) z (by omega) (by rw [hz]; exact hr)
      refine mj_iload_n dMod_keepsAll_4 rfl ?_
      refine mj_aload_n dMod_keepsAll_5 rfl ?_
      refine mj_get dMod_keepsAll_6 fg_Mod_121 rfl ?_
      rw [v2]
      refine mj_icmp_ge (tgt := 36) dMod_keepsAll_9 (by decide) (fun hc => ?_) (fun hc => ?_)
      · exact absurd hc (nI_ge (by omega) (by omega))
      refine mj_iload_n dMod_keepsAll_12 rfl ?_
      refine mj_if_eq (tgt := 28) dMod_keepsAll_13 (by decide) (fun hc2 => ?_) (fun hc2 => ?_)
      · refine mj_iconst (v := nI 0) dMod_keepsAll_28 (by decide) ?_
        exact next false (by rw [bI_0.mp hc2]; rfl)
      refine mj_aload_n dMod_keepsAll_16 rfl ?_
      refine mj_iload_n dMod_keepsAll_17 rfl ?_
      refine mj_p1 dMod_keepsAll_18 ip_Mod_150 cd_Mod_isKept ar_Mod_isKept (c_Mod_isKept (d := d) (r := i) (by omega) HV HR) (by dsimp only; omega) (Nat.le_of_ble_eq_true rfl) (fun E m9 q9 => by simp at q9) (fun v9 μ9 hq => ?_)
      obtain ⟨e, e1⟩ := hq
      cases e
      rw [e1]
      refine mj_if_eq (tgt := 28) dMod_keepsAll_21 (by decide) (fun hc3 => ?_) (fun hc3 => ?_)
      · refine mj_iconst (v := nI 0) dMod_keepsAll_28 (by decide) ?_
        exact next false (by rw [bI_0.mp hc3, Bool.and_false])
      refine mj_iconst (v := nI 1) dMod_keepsAll_24 (by decide) ?_
      refine mj_goto (tgt := 29) dMod_keepsAll_25 (by decide) ?_
      exact next true (by rw [bI_1 hc2, bI_1 hc3]; rfl)
  refine mc_of (L := [_, _, _]) (by decide) (Nat.le_of_ble_eq_true rfl) rfl ?_
  refine mj_iconst (v := nI 1) dMod_keepsAll_0 (by decide) ?_
  refine mj_istore_n (L' := [_, _, _]) dMod_keepsAll_1 (by decide) rfl ?_
  refine mj_iconst (v := nI 0) dMod_keepsAll_2 (by decide) ?_
  refine mj_istore_n (L' := [_, _, _]) dMod_keepsAll_3 (by decide) rfl ?_
  exact loop V.2.1.length 0 true (by omega) (by rw [Bool.true_and]; rfl)
end MKEPT
