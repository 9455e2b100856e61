/-! The law: what it keeps while it goes through the script. -/
def LI (h : xH) (x : Nat) (q : xQ) (A : xMA) (μ : xMu) : Prop := PS h x q ∧ MM h (x + 97) μ ∧ Rm μ A ∧ zEn A q ∧ PB A.1.1 ∧ ∃ f, h.2 (x + 130) = some (cL 1 f)
theorem MM.fe {h h' : xH} {m : Nat} {μ : xMu} (H : MM h m μ) (e : ∀ p : Nat, m ≤ p → p < m + 33 → h'.2 p = h.2 p) : MM h' m μ := ⟨(e _ (by omega) (by omega)).trans H.1, fun k h1 h2 => (e _ (by omega) (by omega)).trans (H.2 k h1 h2)⟩
theorem Rm.pe {μ μ' : xMu} {A : xMA} (H : Rm μ A) (e : Pe μ μ') : Rm μ' A := ⟨H.1.eq (fun a b h => e a b (by omega)), H.2.1.eq (fun a b h => e a b (by omega)), H.2.2.1.eq (fun a b h => e a b (by omega)), H.2.2.2.1.eq (fun a b h => e a b (by omega)), H.2.2.2.2.eq (fun a b h => e a b (by omega))⟩
theorem Rm.pz {μ μ' : xMu} {A : xMA} {ks : List Nat} (H : Rm μ A) (e : Pz μ μ') (hz : Rz μ' ks) : Rm μ' (A.1, A.2.1, A.2.2.1, A.2.2.2.1, A.2.2.2.2.1, ks) := ⟨H.1.eq (fun a b h => e a b (by omega)), H.2.1.eq (fun a b h => e a b (by omega)), H.2.2.1.eq (fun a b h => e a b (by omega)), H.2.2.2.1.eq (fun a b h => e a b (by omega)), hz⟩
theorem wr_ms {μ μ' : xMu} {A : xMA} {r : List Nat × Bool} {o : xO} (H : Rm μ A) (hw : Wr μ r o μ') : Ms thr2 (mdFold A r) o μ' := by
  unfold mdFold
  rcases hw with ⟨h1, h2, h3, h4⟩ | ⟨h1, h2, h3, h4, h5⟩
  · rw [h1, if_pos rfl]
    exact ⟨h3, H.pe h4, ⟨0, h2⟩, fun v e => by simp at e⟩
  · rw [h1, if_neg (by decide)]
    exact ⟨h3, H.pz h5 h4, ⟨_, h2⟩, fun v e => by rw [h2]; exact e⟩
theorem thr1_0 {o : xO} (h : thr1 o = 0) : ∃ v, o = .inl v := by
  cases o with
  | inl v => exact ⟨v, rfl⟩
  | inr E =>
    unfold thr1 at h
    dsimp only at h
    split at h
    · exact absurd h (by decide)
    · exact absurd h (by decide)
theorem thr2_0 {o : xO} (h : thr2 o = 0) : ∃ v, o = .inl v := by
  cases o with
  | inl v => exact ⟨v, rfl⟩
  | inr E => exact absurd (show (1 : Int32) = 0 from h) (by decide)
theorem pb_pair {A : xMA} (a b : Int32) (H : PB A.1.1) : PB (mdPair A a b).2.1.1 := by
  unfold mdPair
  split
  · exact H
  split
  · exact H
  by_cases hc : A.1.1.length < 10 ∧ (A.1.1.filter (fun z => z.1 == a.toInt.toNat)).length < (if a.toInt.toNat = 0 then 2 else 3)
  · rw [if_pos hc]
    intro i
    show ((A.1.1 ++ [(a.toInt.toNat, b.toInt.toNat)]).filter (fun z => z.1 == i)).length ≤ _
    rw [List.filter_append, List.length_append]
    have h1 := H i
    by_cases e : a.toInt.toNat = i
    · rw [e] at hc
      have h2 : ([(a.toInt.toNat, b.toInt.toNat)].filter (fun z => z.1 == i)).length = 1 := by rw [List.filter_cons, if_pos (by rw [beq_iff_eq]; exact e)]; rfl
      rw [h2]
      exact hc.2
    · have h2 : ([(a.toInt.toNat, b.toInt.toNat)].filter (fun z => z.1 == i)).length = 0 := by rw [List.filter_cons, if_neg (by rw [beq_iff_eq]; exact e)]; rfl
      rw [h2]
      exact h1
  · rw [if_neg hc]
    exact H
theorem pb_rule {A : xMA} (a b : Int32) (H : PB A.1.1) : PB (mdRule A a b).2.1.1 := by
  unfold mdRule
  repeat' split
  all_goals exact H
theorem pb_ctx {A : xMA} (a : Int32) (b c : Bool) (H : PB A.1.1) : PB (mdCtx A a b c).2.1.1 := by
  unfold mdCtx
  repeat' split
  all_goals exact H
theorem pb_el {A : xMA} (a : Int32) (b : Bool) (c : Int32) (d : Bool) (H : PB A.1.1) : PB (mdEl A a b c d).2.1.1 := by
  unfold mdEl
  repeat' split
  all_goals exact H
theorem pb_entry {A : xMA} (a b : Int32) (H : PB A.1.1) : PB (mdEntry A a b).2.1.1 := by
  unfold mdEntry
  repeat' split
  all_goals exact H
theorem pb_spell {A : xMA} (a b : Int32) (H : PB A.1.1) : PB (mdSpell A a b).2.1.1 := by
  unfold mdSpell
  repeat' split
  all_goals exact H
theorem pb_type {A : xMA} (a : Bool) (b : Int32) (H : PB A.1.1) : PB (mdType A a b).2.1.1 := by
  unfold mdType
  repeat' split
  all_goals exact H
theorem pb_wipe {A : xMA} (a : Bool) (H : PB A.1.1) : PB (mdWipe A a).2.1.1 := by
  unfold mdWipe
  repeat' split
  all_goals exact H
theorem pb_sample {A : xMA} (H : PB A.1.1) : PB (mdSample A).2.1.1 := by
  unfold mdSample
  repeat' split
  all_goals exact H
theorem pb_fold {A : xMA} (r : List Nat × Bool) (H : PB A.1.1) : PB (mdFold A r).2.1.1 := by
  unfold mdFold
  repeat' split
  all_goals exact H
theorem Rm.lens {μ : xMu} {A : xMA} (H : Rm μ A) : A.2.2.1.length ≤ 4 ∧ A.2.2.2.1.length ≤ 5 ∧ A.1.2.1.length ≤ 4 ∧ ∀ j, (A.2.2.2.2.1.getD j ([], [])).1.length ≤ 4 ∧ (A.2.2.2.2.1.getD j ([], [])).2.length ≤ 5 := by
  obtain ⟨hv, -, ⟨-, -, -, -, l1, l2, -⟩, ⟨-, -, hp⟩, -⟩ := H
  obtain ⟨-, -, -, -, -, -, -, -, -, hr, -⟩ := hv
  refine ⟨l1, l2, hr, fun j => ?_⟩
  by_cases hj : j < A.2.2.2.2.1.length
  · obtain ⟨-, -, -, -, a, b, -⟩ := hp j hj
    exact ⟨a, b⟩
  · rw [getD_len (by omega)]; exact ⟨by decide, by decide⟩
section LAWROWS
variable {C : xCt} {M : xMt} {pc : Nat} {L : List (Option Value)} {st : List Value} {h : xH} {k n : Nat}
theorem law_arg {N sr i c : Nat} {cI : Int} {f : Nat → Int32} (d0 : decode M.2.1 pc = .ok (.aload_n 0, 1)) (d1 : decode M.2.1 (pc + 1) = .ok (.iload 4, 2)) (d2 : decode M.2.1 (pc + 3) = .ok (.iconst cI, 1)) (hcI : Int32.ofInt cI = nI c) (d3 : decode M.2.1 (pc + 4) = .ok (.iadd, 1)) (d4 : decode M.2.1 (pc + 5) = .ok (.iaload, 1)) (hL0 : L[0]? = some (some (.ref sr))) (hL4 : L[4]? = some (some (.int (nI i)))) (hro : C.2.1.2.2 sr = some (N, f)) (hb : i + c < N) (hN : N < 2 ^ 31) (kk : Ex C M (pc + 6) L (.int (f (i + c)) :: st) h k n) : Ex C M pc L st h k n := by
  refine ex_aload_n d0 hL0 ?_
  refine ex_iload d1 hL4 ?_
  refine ex_iconst (v := nI c) d2 hcI ?_
  refine ex_iadd d3 ?_
  exact ex_sld d4 hro (nI_add _ _) hb hN kk
theorem law_bool {v : Int32} (d0 : decode M.2.1 pc = .ok (.ifCond .eq 7, 3)) (d1 : decode M.2.1 (pc + 3) = .ok (.iconst 1, 1)) (d2 : decode M.2.1 (pc + 4) = .ok (.goto 4, 3)) (d3 : decode M.2.1 (pc + 7) = .ok (.iconst 0, 1)) (kk : Ex C M (pc + 8) L (.int (bI (v != 0)) :: st) h k n) : Ex C M pc L (.int v :: st) h k n := by
  refine ex_if_eq (tgt := pc + 7) d0 (by omega) (fun hc => ?_) (fun hc => ?_)
  · refine ex_iconst (v := 0) d3 (by decide) ?_
    have e : bI (v != 0) = 0 := by rw [hc]; rfl
    rw [e] at kk
    exact kk
  · refine ex_iconst (v := 1) d1 (by decide) ?_
    refine ex_goto (tgt := pc + 8) d2 (by omega) ?_
    have e : bI (v != 0) = 1 := by rw [show (v != 0) = true from by simpa using hc]; rfl
    rw [e] at kk
    exact kk
end LAWROWS
section LAW
variable {l : Launch} {G : xG} {mc ms : Nat} {h0 : xH} {Q : xO → xH → Prop} {h : xH} {x i N sr k n : Nat} {q : xQ} {A : xMA} {μ : xMu} {f : Nat → Int32} {v5 v6 : Option Value}
theorem law_tail {p : Nat} {off : Int} {th : xO → Int32} {r1 : xO} {q1 : xQ} {rA : xO × xMA} {w : Int32} (t0 : decode bLaw_law p = .ok (.istore 6, 2)) (t1 : decode bLaw_law (p + 2) = .ok (.aload_n 2, 1)) (t2 : decode bLaw_law (p + 3) = .ok (.invokevirtual 68, 3)) (t3 : decode bLaw_law (p + 6) = .ok (.iload 5, 2)) (t4 : decode bLaw_law (p + 8) = .ok (.if_icmp .eq 5, 3)) (t7 : decode bLaw_law (p + 13) = .ok (.iload 5, 2)) (t8 : decode bLaw_law (p + 15) = .ok (.ifCond .ne 15, 3)) (t9 : decode bLaw_law (p + 18) = .ok (.aload_n 3, 1)) (t10 : decode bLaw_law (p + 19) = .ok (.iconst 0, 1)) (t11 : decode bLaw_law (p + 20) = .ok (.laload, 1)) (t12 : decode bLaw_law (p + 21) = .ok (.iload 6, 2)) (t13 : decode bLaw_law (p + 23) = .ok (.i2l, 1)) (t14 : decode bLaw_law (p + 24) = .ok (.lcmp, 1)) (t15 : decode bLaw_law (p + 25) = .ok (.ifCond .eq 5, 3)) (t18 : decode bLaw_law (p + 30) = .ok (.goto off, 3)) (ho : ((p + 30 : Nat) : Int) + off = (1100 : Nat))
    (hth : ∀ o, th o = 0 → ∃ v, o = .inl v) (hPS : PS h x q1) (hMM : MM h (x + 97) μ) (hMs : Ms th rA (rI w) μ) (hz : ∃ g, h.2 (x + 130) = some (cL 1 g) ∧ ∀ v : Int32, r1 = rI v → g 0 = v.toInt64) (e : r1 = rA.1) (hEn : zEn rA.2 q1) (hPB : PB rA.2.1.1) (hk : k ≤ mc) (hn : n ≤ ms)
    (kk : ∀ (h9 : xH) (w5 w6 : Option Value), LI h9 x q1 rA.2 μ → Ex (l, G, 40, mc, ms, h0, Q) mLaw_law 1100 [some (.ref sr), some (.ref x), some (.ref (x + 97)), some (.ref (x + 130)), some (.int (nI i)), w5, w6] [] h9 k n) : Ex (l, G, 40, mc, ms, h0, Q) mLaw_law p [some (.ref sr), some (.ref x), some (.ref (x + 97)), some (.ref (x + 130)), some (.int (nI i)), some (.int (th r1)), v6] [.int w] h k n := by
  obtain ⟨g, hg, hg0⟩ := hz
  refine ex_istore (L' := [_, _, _, _, _, _, _]) t0 (by decide) rfl ?_
  refine ex_aload_n t1 rfl ?_
  refine ex_v0 t2 iv_Law_68 cd_Mod_thrown ar_Mod_thrown hMM.1 (c_Mod_thrown (d := 0) h hMM) (Nat.le_of_ble_eq_true rfl) (Nat.le_of_ble_eq_true rfl) hk hn (fun E h9 q9 => by obtain ⟨μ9, ⟨e9, -⟩, -⟩ := q9; simp at e9) (fun v9 h9 hq => ?_)
  obtain ⟨μ9, ⟨e9, rfl⟩, hMM9, hF9⟩ := hq
  cases e9
  have hI : LI h9 x q1 rA.2 μ9 := ⟨hPS.fe (fun p a b => hF9.2 p (by omega)), hMM9, hMs.2.1, hEn, hPB, g, (hF9.2 _ (by omega)).trans hg⟩
  refine ex_iload t3 rfl ?_
  refine ex_icmp_eq (tgt := p + 13) t4 (by omega) (fun _ => ?_) (fun hc => ?_)
  · refine ex_iload t7 rfl ?_
    refine ex_if_ne (tgt := p + 30) t8 (by omega) (fun hc => ?_) (fun hc => ?_)
    · exact ex_goto (tgt := 1100) t18 ho (kk h9 _ _ hI)
    · refine ex_aload_n t9 rfl ?_
      refine ex_iconst (v := nI 0) t10 (by decide) ?_
      refine ex_laload t11 ((hF9.2 _ (by omega)).trans hg) rfl (by decide) (by decide) ?_
      refine ex_iload t12 rfl ?_
      refine ex_i2l t13 ?_
      refine ex_lcmp t14 ?_
      refine ex_if_eq (tgt := p + 30) t15 (by omega) (fun _ => ?_) (fun hc2 => ?_)
      · exact ex_goto (tgt := 1100) t18 ho (kk h9 _ _ hI)
      · obtain ⟨v, hv⟩ := hth _ hc
        have e2 := hMs.2.2.2 v (e ▸ hv)
        cases e2
        exact absurd ((lg_cmp_eq _ _).mpr (hg0 w hv)) hc2
  · exact absurd (hMs.1.trans (by rw [e])) hc
theorem law_pair (HI : LI h x q A μ) (hro : G.2.2 sr = some (N, f)) (hi : i + 5 ≤ N) (hN : N < 2 ^ 31) (hk : k + 1 ≤ mc) (hn : n + 6 ≤ ms) (kk : ∀ (h9 : xH) (q9 : xQ) (A9 : xMA) (μ9 : xMu) (w5 w6 : Option Value), LI h9 x q9 A9 μ9 → Ex (l, G, 40, mc, ms, h0, Q) mLaw_law 1100 [some (.ref sr), some (.ref x), some (.ref (x + 97)), some (.ref (x + 130)), some (.int (nI i)), w5, w6] [] h9 (k + 1) (n + 6)) : Ex (l, G, 40, mc, ms, h0, Q) mLaw_law 116 [some (.ref sr), some (.ref x), some (.ref (x + 97)), some (.ref (x + 130)), some (.int (nI i)), v5, v6] [] h k n := by
  obtain ⟨hPS, hMM, hRm, hEn, hPB, hz⟩ := HI
  refine ex_aload_n dLaw_law_116 rfl ?_
  refine law_arg (c := 1) dLaw_law_117 dLaw_law_118 dLaw_law_120 (by decide) dLaw_law_121 dLaw_law_122 rfl rfl hro (by omega) hN ?_
  refine law_arg (c := 2) dLaw_law_123 dLaw_law_124 dLaw_law_126 (by decide) dLaw_law_127 dLaw_law_128 rfl rfl hro (by omega) hN ?_
  refine ex_aload_n dLaw_law_129 rfl ?_
  refine ex_callR dLaw_law_130 (go_s (As := [.ref x, .int (f (i + 1)), .int (f (i + 2)), .ref (x + 130)]) (rest := []) dLaw_law_130 is_Law_62 cd_Law_pair ar_Law_pair rfl) cd_Law_pair (c_Law_pair (d := 0) (a1 := f (i + 1)) (a2 := f (i + 2)) hPS (by omega) hz) (Nat.le_of_ble_eq_true rfl) (Nat.le_of_ble_eq_true rfl) hk hn (fun E h9 q9 => absurd q9.1 (by simp)) (fun v1 h1 hq => ?_)
  obtain ⟨e, hPS1, hfr, g, hg, hg0⟩ := hq
  cases e
  refine ex_istore (L' := [_, _, _, _, _, _, _]) dLaw_law_133 (by decide) rfl ?_
  have hMM1 : MM h1 (x + 97) μ := hMM.fe (fun p a b => hfr p (by omega) (by omega))
  refine ex_aload_n dLaw_law_135 rfl ?_
  refine law_arg (c := 1) dLaw_law_136 dLaw_law_137 dLaw_law_139 (by decide) dLaw_law_140 dLaw_law_141 rfl rfl hro (by omega) hN ?_
  refine law_arg (c := 2) dLaw_law_142 dLaw_law_143 dLaw_law_145 (by decide) dLaw_law_146 dLaw_law_147 rfl rfl hro (by omega) hN ?_
  refine ex_callR dLaw_law_148 (go_v (As := [.int (f (i + 1)), .int (f (i + 2))]) (rest := []) dLaw_law_148 iv_Law_67 cd_Mod_pair ar_Mod_pair hMM1.1 rfl) cd_Mod_pair (c_Mod_pair (d := 0) hPB hRm h1 hMM1) (Nat.le_of_ble_eq_true rfl) (Nat.le_of_ble_eq_true rfl) hk hn (fun E h9 q9 => by obtain ⟨μ9, hw9, -⟩ := q9; obtain ⟨v9, e9⟩ := hw9.2.2.1; simp at e9) (fun v2 h2 hq => ?_)
  obtain ⟨μ2, hMs, hMM2, hF2⟩ := hq
  obtain ⟨w, hw⟩ := hMs.2.2.1
  cases hw
  have hst := st_pair hEn (f (i + 1)) (f (i + 2))
  exact law_tail (th := thr1) (rA := mdPair A (f (i + 1)) (f (i + 2))) dLaw_law_151 dLaw_law_153 dLaw_law_154 dLaw_law_157 dLaw_law_159 dLaw_law_164 dLaw_law_166 dLaw_law_169 dLaw_law_170 dLaw_law_171 dLaw_law_172 dLaw_law_174 dLaw_law_175 dLaw_law_176 dLaw_law_181 (by decide) (fun o ho => thr1_0 ho) (hPS1.fe (fun p a b => hF2.2 p (by omega))) hMM2 hMs ⟨g, (hF2.2 _ (by omega)).trans hg, hg0⟩ hst.1 hst.2 (pb_pair (f (i + 1)) (f (i + 2)) hPB) hk hn (fun h9 w5 w6 hI => kk h9 _ _ _ w5 w6 hI)
theorem law_rule (HI : LI h x q A μ) (hro : G.2.2 sr = some (N, f)) (hi : i + 5 ≤ N) (hN : N < 2 ^ 31) (hk : k + 1 ≤ mc) (hn : n + 6 ≤ ms) (kk : ∀ (h9 : xH) (q9 : xQ) (A9 : xMA) (μ9 : xMu) (w5 w6 : Option Value), LI h9 x q9 A9 μ9 → Ex (l, G, 40, mc, ms, h0, Q) mLaw_law 1100 [some (.ref sr), some (.ref x), some (.ref (x + 97)), some (.ref (x + 130)), some (.int (nI i)), w5, w6] [] h9 (k + 1) (n + 6)) : Ex (l, G, 40, mc, ms, h0, Q) mLaw_law 184 [some (.ref sr), some (.ref x), some (.ref (x + 97)), some (.ref (x + 130)), some (.int (nI i)), v5, v6] [] h k n := by
  obtain ⟨hPS, hMM, hRm, hEn, hPB, hz⟩ := HI
  refine ex_aload_n dLaw_law_184 rfl ?_
  refine law_arg (c := 1) dLaw_law_185 dLaw_law_186 dLaw_law_188 (by decide) dLaw_law_189 dLaw_law_190 rfl rfl hro (by omega) hN ?_
  refine law_arg (c := 2) dLaw_law_191 dLaw_law_192 dLaw_law_194 (by decide) dLaw_law_195 dLaw_law_196 rfl rfl hro (by omega) hN ?_
  refine ex_aload_n dLaw_law_197 rfl ?_
  refine ex_callR dLaw_law_198 (go_s (As := [.ref x, .int (f (i + 1)), .int (f (i + 2)), .ref (x + 130)]) (rest := []) dLaw_law_198 is_Law_71 cd_Law_rule ar_Law_rule rfl) cd_Law_rule (c_Law_rule (d := 0) (a1 := f (i + 1)) (a2 := f (i + 2)) hPS (by omega) hz) (Nat.le_of_ble_eq_true rfl) (Nat.le_of_ble_eq_true rfl) hk hn (fun E h9 q9 => absurd q9.1 (by simp)) (fun v1 h1 hq => ?_)
  obtain ⟨e, hPS1, hfr, g, hg, hg0⟩ := hq
  cases e
  refine ex_istore (L' := [_, _, _, _, _, _, _]) dLaw_law_201 (by decide) rfl ?_
  have hMM1 : MM h1 (x + 97) μ := hMM.fe (fun p a b => hfr p (by omega) (by omega))
  refine ex_aload_n dLaw_law_203 rfl ?_
  refine law_arg (c := 1) dLaw_law_204 dLaw_law_205 dLaw_law_207 (by decide) dLaw_law_208 dLaw_law_209 rfl rfl hro (by omega) hN ?_
  refine law_arg (c := 2) dLaw_law_210 dLaw_law_211 dLaw_law_213 (by decide) dLaw_law_214 dLaw_law_215 rfl rfl hro (by omega) hN ?_
  refine ex_callR dLaw_law_216 (go_v (As := [.int (f (i + 1)), .int (f (i + 2))]) (rest := []) dLaw_law_216 iv_Law_73 cd_Mod_rule ar_Mod_rule hMM1.1 rfl) cd_Mod_rule (c_Mod_rule (d := 0) hRm h1 hMM1) (Nat.le_of_ble_eq_true rfl) (Nat.le_of_ble_eq_true rfl) hk hn (fun E h9 q9 => by obtain ⟨μ9, hw9, -⟩ := q9; obtain ⟨v9, e9⟩ := hw9.2.2.1; simp at e9) (fun v2 h2 hq => ?_)
  obtain ⟨μ2, hMs, hMM2, hF2⟩ := hq
  obtain ⟨w, hw⟩ := hMs.2.2.1
  cases hw
  have hst := st_rule hEn (f (i + 1)) (f (i + 2))
  exact law_tail (th := thr1) (rA := mdRule A (f (i + 1)) (f (i + 2))) dLaw_law_219 dLaw_law_221 dLaw_law_222 dLaw_law_225 dLaw_law_227 dLaw_law_232 dLaw_law_234 dLaw_law_237 dLaw_law_238 dLaw_law_239 dLaw_law_240 dLaw_law_242 dLaw_law_243 dLaw_law_244 dLaw_law_249 (by decide) (fun o ho => thr1_0 ho) (hPS1.fe (fun p a b => hF2.2 p (by omega))) hMM2 hMs ⟨g, (hF2.2 _ (by omega)).trans hg, hg0⟩ hst.1 hst.2 (pb_rule (f (i + 1)) (f (i + 2)) hPB) hk hn (fun h9 w5 w6 hI => kk h9 _ _ _ w5 w6 hI)
theorem law_context (HI : LI h x q A μ) (hro : G.2.2 sr = some (N, f)) (hi : i + 5 ≤ N) (hN : N < 2 ^ 31) (hk : k + 1 ≤ mc) (hn : n + 6 ≤ ms) (kk : ∀ (h9 : xH) (q9 : xQ) (A9 : xMA) (μ9 : xMu) (w5 w6 : Option Value), LI h9 x q9 A9 μ9 → Ex (l, G, 40, mc, ms, h0, Q) mLaw_law 1100 [some (.ref sr), some (.ref x), some (.ref (x + 97)), some (.ref (x + 130)), some (.int (nI i)), w5, w6] [] h9 (k + 1) (n + 6)) : Ex (l, G, 40, mc, ms, h0, Q) mLaw_law 252 [some (.ref sr), some (.ref x), some (.ref (x + 97)), some (.ref (x + 130)), some (.int (nI i)), v5, v6] [] h k n := by
  obtain ⟨hPS, hMM, hRm, hEn, hPB, hz⟩ := HI
  refine ex_aload_n dLaw_law_252 rfl ?_
  refine law_arg (c := 1) dLaw_law_253 dLaw_law_254 dLaw_law_256 (by decide) dLaw_law_257 dLaw_law_258 rfl rfl hro (by omega) hN ?_
  refine law_arg (c := 2) dLaw_law_259 dLaw_law_260 dLaw_law_262 (by decide) dLaw_law_263 dLaw_law_264 rfl rfl hro (by omega) hN ?_
  refine law_bool dLaw_law_265 dLaw_law_268 dLaw_law_269 dLaw_law_272 ?_
  refine law_arg (c := 3) dLaw_law_273 dLaw_law_274 dLaw_law_276 (by decide) dLaw_law_277 dLaw_law_278 rfl rfl hro (by omega) hN ?_
  refine law_bool dLaw_law_279 dLaw_law_282 dLaw_law_283 dLaw_law_286 ?_
  refine ex_aload_n dLaw_law_287 rfl ?_
  refine ex_callR dLaw_law_288 (go_s (As := [.ref x, .int (f (i + 1)), .int (bI (f (i + 2) != 0)), .int (bI (f (i + 3) != 0)), .ref (x + 130)]) (rest := []) dLaw_law_288 is_Law_74 cd_Law_context ar_Law_context rfl) cd_Law_context (c_Law_context (d := 0) (a1 := f (i + 1)) (b2 := (f (i + 2) != 0)) (b3 := (f (i + 3) != 0)) hPS (by omega) hz) (Nat.le_of_ble_eq_true rfl) (Nat.le_of_ble_eq_true rfl) hk hn (fun E h9 q9 => absurd q9.1 (by simp)) (fun v1 h1 hq => ?_)
  obtain ⟨e, hPS1, hfr, g, hg, hg0⟩ := hq
  cases e
  refine ex_istore (L' := [_, _, _, _, _, _, _]) dLaw_law_291 (by decide) rfl ?_
  have hMM1 : MM h1 (x + 97) μ := hMM.fe (fun p a b => hfr p (by omega) (by omega))
  refine ex_aload_n dLaw_law_293 rfl ?_
  refine law_arg (c := 1) dLaw_law_294 dLaw_law_295 dLaw_law_297 (by decide) dLaw_law_298 dLaw_law_299 rfl rfl hro (by omega) hN ?_
  refine law_arg (c := 2) dLaw_law_300 dLaw_law_301 dLaw_law_303 (by decide) dLaw_law_304 dLaw_law_305 rfl rfl hro (by omega) hN ?_
  refine law_bool dLaw_law_306 dLaw_law_309 dLaw_law_310 dLaw_law_313 ?_
  refine law_arg (c := 3) dLaw_law_314 dLaw_law_315 dLaw_law_317 (by decide) dLaw_law_318 dLaw_law_319 rfl rfl hro (by omega) hN ?_
  refine law_bool dLaw_law_320 dLaw_law_323 dLaw_law_324 dLaw_law_327 ?_
  refine ex_callR dLaw_law_328 (go_v (As := [.int (f (i + 1)), .int (bI (f (i + 2) != 0)), .int (bI (f (i + 3) != 0))]) (rest := []) dLaw_law_328 iv_Law_77 cd_Mod_context ar_Mod_context hMM1.1 rfl) cd_Mod_context (c_Mod_context (d := 0) hRm h1 hMM1) (Nat.le_of_ble_eq_true rfl) (Nat.le_of_ble_eq_true rfl) hk hn (fun E h9 q9 => by obtain ⟨μ9, hw9, -⟩ := q9; obtain ⟨v9, e9⟩ := hw9.2.2.1; simp at e9) (fun v2 h2 hq => ?_)
  obtain ⟨μ2, hMs, hMM2, hF2⟩ := hq
  obtain ⟨w, hw⟩ := hMs.2.2.1
  cases hw
  have hst := st_ctx hEn (f (i + 1)) (f (i + 2) != 0) (f (i + 3) != 0)
  exact law_tail (th := thr1) (rA := mdCtx A (f (i + 1)) (f (i + 2) != 0) (f (i + 3) != 0)) dLaw_law_331 dLaw_law_333 dLaw_law_334 dLaw_law_337 dLaw_law_339 dLaw_law_344 dLaw_law_346 dLaw_law_349 dLaw_law_350 dLaw_law_351 dLaw_law_352 dLaw_law_354 dLaw_law_355 dLaw_law_356 dLaw_law_361 (by decide) (fun o ho => thr1_0 ho) (hPS1.fe (fun p a b => hF2.2 p (by omega))) hMM2 hMs ⟨g, (hF2.2 _ (by omega)).trans hg, hg0⟩ hst.1 hst.2 (pb_ctx (f (i + 1)) (f (i + 2) != 0) (f (i + 3) != 0) hPB) hk hn (fun h9 w5 w6 hI => kk h9 _ _ _ w5 w6 hI)
theorem law_element (HI : LI h x q A μ) (hro : G.2.2 sr = some (N, f)) (hi : i + 5 ≤ N) (hN : N < 2 ^ 31) (hk : k + 1 ≤ mc) (hn : n + 6 ≤ ms) (kk : ∀ (h9 : xH) (q9 : xQ) (A9 : xMA) (μ9 : xMu) (w5 w6 : Option Value), LI h9 x q9 A9 μ9 → Ex (l, G, 40, mc, ms, h0, Q) mLaw_law 1100 [some (.ref sr), some (.ref x), some (.ref (x + 97)), some (.ref (x + 130)), some (.int (nI i)), w5, w6] [] h9 (k + 1) (n + 6)) : Ex (l, G, 40, mc, ms, h0, Q) mLaw_law 364 [some (.ref sr), some (.ref x), some (.ref (x + 97)), some (.ref (x + 130)), some (.int (nI i)), v5, v6] [] h k n := by
  obtain ⟨hPS, hMM, hRm, hEn, hPB, hz⟩ := HI
  refine ex_aload_n dLaw_law_364 rfl ?_
  refine law_arg (c := 1) dLaw_law_365 dLaw_law_366 dLaw_law_368 (by decide) dLaw_law_369 dLaw_law_370 rfl rfl hro (by omega) hN ?_
  refine law_arg (c := 2) dLaw_law_371 dLaw_law_372 dLaw_law_374 (by decide) dLaw_law_375 dLaw_law_376 rfl rfl hro (by omega) hN ?_
  refine law_bool dLaw_law_377 dLaw_law_380 dLaw_law_381 dLaw_law_384 ?_
  refine law_arg (c := 3) dLaw_law_385 dLaw_law_386 dLaw_law_388 (by decide) dLaw_law_389 dLaw_law_390 rfl rfl hro (by omega) hN ?_
  refine law_arg (c := 4) dLaw_law_391 dLaw_law_392 dLaw_law_394 (by decide) dLaw_law_395 dLaw_law_396 rfl rfl hro (by omega) hN ?_
  refine law_bool dLaw_law_397 dLaw_law_400 dLaw_law_401 dLaw_law_404 ?_
  refine ex_aload_n dLaw_law_405 rfl ?_
  refine ex_callR dLaw_law_406 (go_s (As := [.ref x, .int (f (i + 1)), .int (bI (f (i + 2) != 0)), .int (f (i + 3)), .int (bI (f (i + 4) != 0)), .ref (x + 130)]) (rest := []) dLaw_law_406 is_Law_78 cd_Law_element ar_Law_element rfl) cd_Law_element (c_Law_element (d := 0) (a1 := f (i + 1)) (b2 := (f (i + 2) != 0)) (a3 := f (i + 3)) (b4 := (f (i + 4) != 0)) hPS (by omega) hz) (Nat.le_of_ble_eq_true rfl) (Nat.le_of_ble_eq_true rfl) hk hn (fun E h9 q9 => absurd q9.1 (by simp)) (fun v1 h1 hq => ?_)
  obtain ⟨e, hPS1, hfr, g, hg, hg0⟩ := hq
  cases e
  refine ex_istore (L' := [_, _, _, _, _, _, _]) dLaw_law_409 (by decide) rfl ?_
  have hMM1 : MM h1 (x + 97) μ := hMM.fe (fun p a b => hfr p (by omega) (by omega))
  refine ex_aload_n dLaw_law_411 rfl ?_
  refine law_arg (c := 1) dLaw_law_412 dLaw_law_413 dLaw_law_415 (by decide) dLaw_law_416 dLaw_law_417 rfl rfl hro (by omega) hN ?_
  refine law_arg (c := 2) dLaw_law_418 dLaw_law_419 dLaw_law_421 (by decide) dLaw_law_422 dLaw_law_423 rfl rfl hro (by omega) hN ?_
  refine law_bool dLaw_law_424 dLaw_law_427 dLaw_law_428 dLaw_law_431 ?_
  refine law_arg (c := 3) dLaw_law_432 dLaw_law_433 dLaw_law_435 (by decide) dLaw_law_436 dLaw_law_437 rfl rfl hro (by omega) hN ?_
  refine law_arg (c := 4) dLaw_law_438 dLaw_law_439 dLaw_law_441 (by decide) dLaw_law_442 dLaw_law_443 rfl rfl hro (by omega) hN ?_
  refine law_bool dLaw_law_444 dLaw_law_447 dLaw_law_448 dLaw_law_451 ?_
  refine ex_callR dLaw_law_452 (go_v (As := [.int (f (i + 1)), .int (bI (f (i + 2) != 0)), .int (f (i + 3)), .int (bI (f (i + 4) != 0))]) (rest := []) dLaw_law_452 iv_Law_81 cd_Mod_element ar_Mod_element hMM1.1 rfl) cd_Mod_element (c_Mod_element (d := 0) hRm h1 hMM1) (Nat.le_of_ble_eq_true rfl) (Nat.le_of_ble_eq_true rfl) hk hn (fun E h9 q9 => by obtain ⟨μ9, hw9, -⟩ := q9; obtain ⟨v9, e9⟩ := hw9.2.2.1; simp at e9) (fun v2 h2 hq => ?_)
  obtain ⟨μ2, hMs, hMM2, hF2⟩ := hq
  obtain ⟨w, hw⟩ := hMs.2.2.1
  cases hw
  have hst := st_el hEn (f (i + 1)) (f (i + 2) != 0) (f (i + 3)) (f (i + 4) != 0)
  exact law_tail (th := thr1) (rA := mdEl A (f (i + 1)) (f (i + 2) != 0) (f (i + 3)) (f (i + 4) != 0)) dLaw_law_455 dLaw_law_457 dLaw_law_458 dLaw_law_461 dLaw_law_463 dLaw_law_468 dLaw_law_470 dLaw_law_473 dLaw_law_474 dLaw_law_475 dLaw_law_476 dLaw_law_478 dLaw_law_479 dLaw_law_480 dLaw_law_485 (by decide) (fun o ho => thr1_0 ho) (hPS1.fe (fun p a b => hF2.2 p (by omega))) hMM2 hMs ⟨g, (hF2.2 _ (by omega)).trans hg, hg0⟩ hst.1 hst.2 (pb_el (f (i + 1)) (f (i + 2) != 0) (f (i + 3)) (f (i + 4) != 0) hPB) hk hn (fun h9 w5 w6 hI => kk h9 _ _ _ w5 w6 hI)
theorem law_entry (HI : LI h x q A μ) (hro : G.2.2 sr = some (N, f)) (hi : i + 5 ≤ N) (hN : N < 2 ^ 31) (hk : k + 1 ≤ mc) (hn : n + 6 ≤ ms) (kk : ∀ (h9 : xH) (q9 : xQ) (A9 : xMA) (μ9 : xMu) (w5 w6 : Option Value), LI h9 x q9 A9 μ9 → Ex (l, G, 40, mc, ms, h0, Q) mLaw_law 1100 [some (.ref sr), some (.ref x), some (.ref (x + 97)), some (.ref (x + 130)), some (.int (nI i)), w5, w6] [] h9 (k + 1) (n + 6)) : Ex (l, G, 40, mc, ms, h0, Q) mLaw_law 488 [some (.ref sr), some (.ref x), some (.ref (x + 97)), some (.ref (x + 130)), some (.int (nI i)), v5, v6] [] h k n := by
  obtain ⟨hPS, hMM, hRm, hEn, hPB, hz⟩ := HI
  refine ex_aload_n dLaw_law_488 rfl ?_
  refine law_arg (c := 1) dLaw_law_489 dLaw_law_490 dLaw_law_492 (by decide) dLaw_law_493 dLaw_law_494 rfl rfl hro (by omega) hN ?_
  refine law_arg (c := 2) dLaw_law_495 dLaw_law_496 dLaw_law_498 (by decide) dLaw_law_499 dLaw_law_500 rfl rfl hro (by omega) hN ?_
  refine ex_aload_n dLaw_law_501 rfl ?_
  refine ex_callR dLaw_law_502 (go_s (As := [.ref x, .int (f (i + 1)), .int (f (i + 2)), .ref (x + 130)]) (rest := []) dLaw_law_502 is_Law_82 cd_Law_entry ar_Law_entry rfl) cd_Law_entry (c_Law_entry (d := 0) (a1 := f (i + 1)) (a2 := f (i + 2)) hPS (by omega) hz) (Nat.le_of_ble_eq_true rfl) (Nat.le_of_ble_eq_true rfl) hk hn (fun E h9 q9 => absurd q9.1 (by simp)) (fun v1 h1 hq => ?_)
  obtain ⟨e, hPS1, hfr, g, hg, hg0⟩ := hq
  cases e
  refine ex_istore (L' := [_, _, _, _, _, _, _]) dLaw_law_505 (by decide) rfl ?_
  have hMM1 : MM h1 (x + 97) μ := hMM.fe (fun p a b => hfr p (by omega) (by omega))
  refine ex_aload_n dLaw_law_507 rfl ?_
  refine law_arg (c := 1) dLaw_law_508 dLaw_law_509 dLaw_law_511 (by decide) dLaw_law_512 dLaw_law_513 rfl rfl hro (by omega) hN ?_
  refine law_arg (c := 2) dLaw_law_514 dLaw_law_515 dLaw_law_517 (by decide) dLaw_law_518 dLaw_law_519 rfl rfl hro (by omega) hN ?_
  refine ex_callR dLaw_law_520 (go_v (As := [.int (f (i + 1)), .int (f (i + 2))]) (rest := []) dLaw_law_520 iv_Law_84 cd_Mod_entry ar_Mod_entry hMM1.1 rfl) cd_Mod_entry (c_Mod_entry (d := 0) hRm h1 hMM1) (Nat.le_of_ble_eq_true rfl) (Nat.le_of_ble_eq_true rfl) hk hn (fun E h9 q9 => by obtain ⟨μ9, hw9, -⟩ := q9; obtain ⟨v9, e9⟩ := hw9.2.2.1; simp at e9) (fun v2 h2 hq => ?_)
  obtain ⟨μ2, hMs, hMM2, hF2⟩ := hq
  obtain ⟨w, hw⟩ := hMs.2.2.1
  cases hw
  have hst := st_entry hEn (f (i + 1)) (f (i + 2))
  exact law_tail (th := thr1) (rA := mdEntry A (f (i + 1)) (f (i + 2))) dLaw_law_523 dLaw_law_525 dLaw_law_526 dLaw_law_529 dLaw_law_531 dLaw_law_536 dLaw_law_538 dLaw_law_541 dLaw_law_542 dLaw_law_543 dLaw_law_544 dLaw_law_546 dLaw_law_547 dLaw_law_548 dLaw_law_553 (by decide) (fun o ho => thr1_0 ho) (hPS1.fe (fun p a b => hF2.2 p (by omega))) hMM2 hMs ⟨g, (hF2.2 _ (by omega)).trans hg, hg0⟩ hst.1 hst.2 (pb_entry (f (i + 1)) (f (i + 2)) hPB) hk hn (fun h9 w5 w6 hI => kk h9 _ _ _ w5 w6 hI)
theorem law_spell (HI : LI h x q A μ) (hro : G.2.2 sr = some (N, f)) (hi : i + 5 ≤ N) (hN : N < 2 ^ 31) (hk : k + 1 ≤ mc) (hn : n + 6 ≤ ms) (kk : ∀ (h9 : xH) (q9 : xQ) (A9 : xMA) (μ9 : xMu) (w5 w6 : Option Value), LI h9 x q9 A9 μ9 → Ex (l, G, 40, mc, ms, h0, Q) mLaw_law 1100 [some (.ref sr), some (.ref x), some (.ref (x + 97)), some (.ref (x + 130)), some (.int (nI i)), w5, w6] [] h9 (k + 1) (n + 6)) : Ex (l, G, 40, mc, ms, h0, Q) mLaw_law 556 [some (.ref sr), some (.ref x), some (.ref (x + 97)), some (.ref (x + 130)), some (.int (nI i)), v5, v6] [] h k n := by
  obtain ⟨hPS, hMM, hRm, hEn, hPB, hz⟩ := HI
  refine ex_aload_n dLaw_law_556 rfl ?_
  refine law_arg (c := 1) dLaw_law_557 dLaw_law_558 dLaw_law_560 (by decide) dLaw_law_561 dLaw_law_562 rfl rfl hro (by omega) hN ?_
  refine law_arg (c := 2) dLaw_law_563 dLaw_law_564 dLaw_law_566 (by decide) dLaw_law_567 dLaw_law_568 rfl rfl hro (by omega) hN ?_
  refine ex_aload_n dLaw_law_569 rfl ?_
  refine ex_callR dLaw_law_570 (go_s (As := [.ref x, .int (f (i + 1)), .int (f (i + 2)), .ref (x + 130)]) (rest := []) dLaw_law_570 is_Law_85 cd_Law_spell ar_Law_spell rfl) cd_Law_spell (c_Law_spell (d := 0) (a1 := f (i + 1)) (a2 := f (i + 2)) hPS (by omega) hz) (Nat.le_of_ble_eq_true rfl) (Nat.le_of_ble_eq_true rfl) hk hn (fun E h9 q9 => absurd q9.1 (by simp)) (fun v1 h1 hq => ?_)
  obtain ⟨e, hPS1, hfr, g, hg, hg0⟩ := hq
  cases e
  refine ex_istore (L' := [_, _, _, _, _, _, _]) dLaw_law_573 (by decide) rfl ?_
  have hMM1 : MM h1 (x + 97) μ := hMM.fe (fun p a b => hfr p (by omega) (by omega))
  refine ex_aload_n dLaw_law_575 rfl ?_
  refine law_arg (c := 1) dLaw_law_576 dLaw_law_577 dLaw_law_579 (by decide) dLaw_law_580 dLaw_law_581 rfl rfl hro (by omega) hN ?_
  refine law_arg (c := 2) dLaw_law_582 dLaw_law_583 dLaw_law_585 (by decide) dLaw_law_586 dLaw_law_587 rfl rfl hro (by omega) hN ?_
  refine ex_callR dLaw_law_588 (go_v (As := [.int (f (i + 1)), .int (f (i + 2))]) (rest := []) dLaw_law_588 iv_Law_87 cd_Mod_spell ar_Mod_spell hMM1.1 rfl) cd_Mod_spell (c_Mod_spell (d := 0) hRm h1 hMM1) (Nat.le_of_ble_eq_true rfl) (Nat.le_of_ble_eq_true rfl) hk hn (fun E h9 q9 => by obtain ⟨μ9, hw9, -⟩ := q9; obtain ⟨v9, e9⟩ := hw9.2.2.1; simp at e9) (fun v2 h2 hq => ?_)
  obtain ⟨μ2, hMs, hMM2, hF2⟩ := hq
  obtain ⟨w, hw⟩ := hMs.2.2.1
  cases hw
  have hst := st_spell hEn (f (i + 1)) (f (i + 2))
  exact law_tail (th := thr1) (rA := mdSpell A (f (i + 1)) (f (i + 2))) dLaw_law_591 dLaw_law_593 dLaw_law_594 dLaw_law_597 dLaw_law_599 dLaw_law_604 dLaw_law_606 dLaw_law_609 dLaw_law_610 dLaw_law_611 dLaw_law_612 dLaw_law_614 dLaw_law_615 dLaw_law_616 dLaw_law_621 (by decide) (fun o ho => thr1_0 ho) (hPS1.fe (fun p a b => hF2.2 p (by omega))) hMM2 hMs ⟨g, (hF2.2 _ (by omega)).trans hg, hg0⟩ hst.1 hst.2 (pb_spell (f (i + 1)) (f (i + 2)) hPB) hk hn (fun h9 w5 w6 hI => kk h9 _ _ _ w5 w6 hI)
theorem law_type (HI : LI h x q A μ) (hro : G.2.2 sr = some (N, f)) (hi : i + 5 ≤ N) (hN : N < 2 ^ 31) (hk : k + 1 ≤ mc) (hn : n + 6 ≤ ms) (kk : ∀ (h9 : xH) (q9 : xQ) (A9 : xMA) (μ9 : xMu) (w5 w6 : Option Value), LI h9 x q9 A9 μ9 → Ex (l, G, 40, mc, ms, h0, Q) mLaw_law 1100 [some (.ref sr), some (.ref x), some (.ref (x + 97)), some (.ref (x + 130)), some (.int (nI i)), w5, w6] [] h9 (k + 1) (n + 6)) : Ex (l, G, 40, mc, ms, h0, Q) mLaw_law 624 [some (.ref sr), some (.ref x), some (.ref (x + 97)), some (.ref (x + 130)), some (.int (nI i)), v5, v6] [] h k n := by
  obtain ⟨hPS, hMM, hRm, hEn, hPB, hz⟩ := HI
  refine ex_aload_n dLaw_law_624 rfl ?_
  refine law_arg (c := 1) dLaw_law_625 dLaw_law_626 dLaw_law_628 (by decide) dLaw_law_629 dLaw_law_630 rfl rfl hro (by omega) hN ?_
  refine law_bool dLaw_law_631 dLaw_law_634 dLaw_law_635 dLaw_law_638 ?_
  refine law_arg (c := 2) dLaw_law_639 dLaw_law_640 dLaw_law_642 (by decide) dLaw_law_643 dLaw_law_644 rfl rfl hro (by omega) hN ?_
  refine ex_aload_n dLaw_law_645 rfl ?_
  refine ex_callR dLaw_law_646 (go_s (As := [.ref x, .int (bI (f (i + 1) != 0)), .int (f (i + 2)), .ref (x + 130)]) (rest := []) dLaw_law_646 is_Law_88 cd_Law_type ar_Law_type rfl) cd_Law_type (c_Law_type (d := 0) (b1 := (f (i + 1) != 0)) (a2 := f (i + 2)) hPS (by omega) hz) (Nat.le_of_ble_eq_true rfl) (Nat.le_of_ble_eq_true rfl) hk hn (fun E h9 q9 => absurd q9.1 (by simp)) (fun v1 h1 hq => ?_)
  obtain ⟨e, hPS1, hfr, g, hg, hg0⟩ := hq
  cases e
  refine ex_istore (L' := [_, _, _, _, _, _, _]) dLaw_law_649 (by decide) rfl ?_
  have hMM1 : MM h1 (x + 97) μ := hMM.fe (fun p a b => hfr p (by omega) (by omega))
  refine ex_aload_n dLaw_law_651 rfl ?_
  refine law_arg (c := 1) dLaw_law_652 dLaw_law_653 dLaw_law_655 (by decide) dLaw_law_656 dLaw_law_657 rfl rfl hro (by omega) hN ?_
  refine law_bool dLaw_law_658 dLaw_law_661 dLaw_law_662 dLaw_law_665 ?_
  refine law_arg (c := 2) dLaw_law_666 dLaw_law_667 dLaw_law_669 (by decide) dLaw_law_670 dLaw_law_671 rfl rfl hro (by omega) hN ?_
  refine ex_callR dLaw_law_672 (go_v (As := [.int (bI (f (i + 1) != 0)), .int (f (i + 2))]) (rest := []) dLaw_law_672 iv_Law_91 cd_Mod_type ar_Mod_type hMM1.1 rfl) cd_Mod_type (c_Mod_type (d := 0) hRm h1 hMM1) (Nat.le_of_ble_eq_true rfl) (Nat.le_of_ble_eq_true rfl) hk hn (fun E h9 q9 => by obtain ⟨μ9, hw9, -⟩ := q9; obtain ⟨v9, e9⟩ := hw9.2.2.1; simp at e9) (fun v2 h2 hq => ?_)
  obtain ⟨μ2, hMs, hMM2, hF2⟩ := hq
  obtain ⟨w, hw⟩ := hMs.2.2.1
  cases hw
  have hst := st_type hEn (f (i + 1) != 0) (f (i + 2))
  exact law_tail (th := thr1) (rA := mdType A (f (i + 1) != 0) (f (i + 2))) dLaw_law_675 dLaw_law_677 dLaw_law_678 dLaw_law_681 dLaw_law_683 dLaw_law_688 dLaw_law_690 dLaw_law_693 dLaw_law_694 dLaw_law_695 dLaw_law_696 dLaw_law_698 dLaw_law_699 dLaw_law_700 dLaw_law_705 (by decide) (fun o ho => thr1_0 ho) (hPS1.fe (fun p a b => hF2.2 p (by omega))) hMM2 hMs ⟨g, (hF2.2 _ (by omega)).trans hg, hg0⟩ hst.1 hst.2 (pb_type (f (i + 1) != 0) (f (i + 2)) hPB) hk hn (fun h9 w5 w6 hI => kk h9 _ _ _ w5 w6 hI)
theorem law_wipe (HI : LI h x q A μ) (hro : G.2.2 sr = some (N, f)) (hi : i + 5 ≤ N) (hN : N < 2 ^ 31) (hk : k + 1 ≤ mc) (hn : n + 6 ≤ ms) (kk : ∀ (h9 : xH) (q9 : xQ) (A9 : xMA) (μ9 : xMu) (w5 w6 : Option Value), LI h9 x q9 A9 μ9 → Ex (l, G, 40, mc, ms, h0, Q) mLaw_law 1100 [some (.ref sr), some (.ref x), some (.ref (x + 97)), some (.ref (x + 130)), some (.int (nI i)), w5, w6] [] h9 (k + 1) (n + 6)) : Ex (l, G, 40, mc, ms, h0, Q) mLaw_law 708 [some (.ref sr), some (.ref x), some (.ref (x + 97)), some (.ref (x + 130)), some (.int (nI i)), v5, v6] [] h k n := by
  obtain ⟨hPS, hMM, hRm, hEn, hPB, hz⟩ := HI
  refine ex_aload_n dLaw_law_708 rfl ?_
  refine law_arg (c := 1) dLaw_law_709 dLaw_law_710 dLaw_law_712 (by decide) dLaw_law_713 dLaw_law_714 rfl rfl hro (by omega) hN ?_
  refine law_bool dLaw_law_715 dLaw_law_718 dLaw_law_719 dLaw_law_722 ?_
  have hst := st_wipe hEn (f (i + 1) != 0)
  have hs : ∃ v : Int32, (opWipe q (f (i + 1) != 0)).1 = rI v := by
    unfold opWipe
    split
    · exact ⟨_, rfl⟩
    · exact ⟨_, rfl⟩
  obtain ⟨v, hv⟩ := hs
  refine ex_callR dLaw_law_723 (go_v (As := [.int (bI (f (i + 1) != 0))]) (rest := []) dLaw_law_723 iv_Law_92 cd_PW_wipe ar_PW_wipe hPS.1 rfl) cd_PW_wipe (c_PW_wipe (d := 0) (up := (f (i + 1) != 0)) hPS) (Nat.le_of_ble_eq_true rfl) (Nat.le_of_ble_eq_true rfl) hk hn (fun E h9 q9 => by have e9 := q9.1; rw [hv] at e9; simp at e9) (fun v1 h1 hq => ?_)
  obtain ⟨e, hPS1, hfr⟩ := hq
  rw [hv] at e
  cases e
  have hMM1 : MM h1 (x + 97) μ := hMM.fe (fun p a b => hfr p (by omega))
  refine ex_aload_n dLaw_law_726 rfl ?_
  refine law_arg (c := 1) dLaw_law_727 dLaw_law_728 dLaw_law_730 (by decide) dLaw_law_731 dLaw_law_732 rfl rfl hro (by omega) hN ?_
  refine law_bool dLaw_law_733 dLaw_law_736 dLaw_law_737 dLaw_law_740 ?_
  refine ex_callR dLaw_law_741 (go_v (As := [.int (bI (f (i + 1) != 0))]) (rest := [.int v]) dLaw_law_741 iv_Law_96 cd_Mod_wipe ar_Mod_wipe hMM1.1 rfl) cd_Mod_wipe (c_Mod_wipe (d := 0) hRm h1 hMM1) (Nat.le_of_ble_eq_true rfl) (Nat.le_of_ble_eq_true rfl) hk hn (fun E h9 q9 => by obtain ⟨μ9, hw9, -⟩ := q9; obtain ⟨v9, e9⟩ := hw9.2.2.1; simp at e9) (fun v2 h2 hq => ?_)
  obtain ⟨μ2, hMs, hMM2, hF2⟩ := hq
  have e2 := hMs.2.2.2 (some (.int v)) (by rw [← hst.1]; exact hv)
  cases e2
  have hI : LI h2 x (opWipe q (f (i + 1) != 0)).2 (mdWipe A (f (i + 1) != 0)).2 μ2 := ⟨hPS1.fe (fun p a b => hF2.2 p (by omega)), hMM2, hMs.2.1, hst.2, pb_wipe (f (i + 1) != 0) hPB, by obtain ⟨g, hg⟩ := hz; exact ⟨g, (hF2.2 _ (by omega)).trans ((hfr _ (by omega)).trans hg)⟩⟩
  exact ex_icmp_eq (tgt := 1100) dLaw_law_744 (by decide) (fun _ => kk h2 _ _ _ _ _ hI) (fun hc => absurd rfl hc)
theorem law_belong (HI : LI h x q A μ) (hro : G.2.2 sr = some (N, f)) (hi : i + 5 ≤ N) (hN : N < 2 ^ 31) (hk : k + 1 ≤ mc) (hn : n + 6 ≤ ms) (kk : ∀ (h9 : xH) (q9 : xQ) (A9 : xMA) (μ9 : xMu) (w5 w6 : Option Value), LI h9 x q9 A9 μ9 → Ex (l, G, 40, mc, ms, h0, Q) mLaw_law 1100 [some (.ref sr), some (.ref x), some (.ref (x + 97)), some (.ref (x + 130)), some (.int (nI i)), w5, w6] [] h9 (k + 1) (n + 6)) : Ex (l, G, 40, mc, ms, h0, Q) mLaw_law 749 [some (.ref sr), some (.ref x), some (.ref (x + 97)), some (.ref (x + 130)), some (.int (nI i)), v5, v6] [] h k n := by
  obtain ⟨hPS, hMM, hRm, hEn, hPB, hz⟩ := HI
  refine ex_aload_n dLaw_law_749 rfl ?_
  have hst := st_belong hEn hRm.lens.1 hRm.lens.2.1
  have hs : ∃ v : Int32, (opBelong q).1 = rI v := ⟨_, rfl⟩
  obtain ⟨v, hv⟩ := hs
  refine ex_callR dLaw_law_750 (go_v (As := []) (rest := []) dLaw_law_750 iv_Law_97 cd_PW_belong ar_PW_belong hPS.1 rfl) cd_PW_belong (c_PW_belong (d := 0) hPS) (Nat.le_of_ble_eq_true rfl) (Nat.le_of_ble_eq_true rfl) hk hn (fun E h9 q9 => by have e9 := q9.1; rw [hv] at e9; simp at e9) (fun v1 h1 hq => ?_)
  obtain ⟨e, hPS1, hfr⟩ := hq
  rw [hv] at e
  cases e
  have hMM1 : MM h1 (x + 97) μ := hMM.fe (fun p a b => hfr p (by omega))
  refine ex_aload_n dLaw_law_753 rfl ?_
  refine ex_callR dLaw_law_754 (go_v (As := []) (rest := [.int v]) dLaw_law_754 iv_Law_101 cd_Mod_belong ar_Mod_belong hMM1.1 rfl) cd_Mod_belong (c_Mod_belong (d := 0) hRm.1 hRm.2.2.1 h1 hMM1) (Nat.le_of_ble_eq_true rfl) (Nat.le_of_ble_eq_true rfl) hk hn (fun E h9 q9 => by obtain ⟨μ9, hw9, -⟩ := q9; exact absurd hw9.1 (by simp)) (fun v2 h2 hq => ?_)
  obtain ⟨μ2, ⟨e2, hPe, -⟩, hMM2, hF2⟩ := hq
  have e3 : (Sum.inl v2 : xO) = rI v := e2.trans (hst.1.symm.trans hv)
  cases e3
  have hI : LI h2 x q A μ2 := ⟨hPS1.fe (fun p a b => hF2.2 p (by omega)), hMM2, hRm.pe hPe, hEn, hPB, by obtain ⟨g, hg⟩ := hz; exact ⟨g, (hF2.2 _ (by omega)).trans ((hfr _ (by omega)).trans hg)⟩⟩
  exact ex_icmp_eq (tgt := 1100) dLaw_law_757 (by decide) (fun _ => kk h2 _ _ _ _ _ hI) (fun hc => absurd rfl hc)
theorem law_blame (HI : LI h x q A μ) (hro : G.2.2 sr = some (N, f)) (hi : i + 5 ≤ N) (hN : N < 2 ^ 31) (hk : k + 1 ≤ mc) (hn : n + 6 ≤ ms) (kk : ∀ (h9 : xH) (q9 : xQ) (A9 : xMA) (μ9 : xMu) (w5 w6 : Option Value), LI h9 x q9 A9 μ9 → Ex (l, G, 40, mc, ms, h0, Q) mLaw_law 1100 [some (.ref sr), some (.ref x), some (.ref (x + 97)), some (.ref (x + 130)), some (.int (nI i)), w5, w6] [] h9 (k + 1) (n + 6)) : Ex (l, G, 40, mc, ms, h0, Q) mLaw_law 762 [some (.ref sr), some (.ref x), some (.ref (x + 97)), some (.ref (x + 130)), some (.int (nI i)), v5, v6] [] h k n := by
  obtain ⟨hPS, hMM, hRm, hEn, hPB, hz⟩ := HI
  refine ex_aload_n dLaw_law_762 rfl ?_
  have hst := st_blame hEn hRm.lens.2.2.1 hRm.lens.1 hRm.lens.2.1
  have hs : ∃ v : Int32, (opBlame q).1 = rI v := ⟨_, rfl⟩
  obtain ⟨v, hv⟩ := hs
  refine ex_callR dLaw_law_763 (go_v (As := []) (rest := []) dLaw_law_763 iv_Law_102 cd_PW_blame ar_PW_blame hPS.1 rfl) cd_PW_blame (c_PW_blame (d := 0) hPS) (Nat.le_of_ble_eq_true rfl) (Nat.le_of_ble_eq_true rfl) hk hn (fun E h9 q9 => by have e9 := q9.1; rw [hv] at e9; simp at e9) (fun v1 h1 hq => ?_)
  obtain ⟨e, hPS1, hfr⟩ := hq
  rw [hv] at e
  cases e
  have hMM1 : MM h1 (x + 97) μ := hMM.fe (fun p a b => hfr p (by omega))
  refine ex_aload_n dLaw_law_766 rfl ?_
  refine ex_callR dLaw_law_767 (go_v (As := []) (rest := [.int v]) dLaw_law_767 iv_Law_105 cd_Mod_blame ar_Mod_blame hMM1.1 rfl) cd_Mod_blame (c_Mod_blame (d := 0) hRm.1 hRm.2.2.1 h1 hMM1) (Nat.le_of_ble_eq_true rfl) (Nat.le_of_ble_eq_true rfl) hk hn (fun E h9 q9 => by obtain ⟨μ9, hw9, -⟩ := q9; exact absurd hw9.1 (by simp)) (fun v2 h2 hq => ?_)
  obtain ⟨μ2, ⟨e2, hPe, -⟩, hMM2, hF2⟩ := hq
  have e3 : (Sum.inl v2 : xO) = rI v := e2.trans (hst.1.symm.trans hv)
  cases e3
  have hI : LI h2 x q A μ2 := ⟨hPS1.fe (fun p a b => hF2.2 p (by omega)), hMM2, hRm.pe hPe, hEn, hPB, by obtain ⟨g, hg⟩ := hz; exact ⟨g, (hF2.2 _ (by omega)).trans ((hfr _ (by omega)).trans hg)⟩⟩
  exact ex_icmp_eq (tgt := 1100) dLaw_law_770 (by decide) (fun _ => kk h2 _ _ _ _ _ hI) (fun hc => absurd rfl hc)
theorem law_write (HI : LI h x q A μ) (hro : G.2.2 sr = some (N, f)) (hi : i + 5 ≤ N) (hN : N < 2 ^ 31) (hk : k + 1 ≤ mc) (hn : n + 6 ≤ ms) (kk : ∀ (h9 : xH) (q9 : xQ) (A9 : xMA) (μ9 : xMu) (w5 w6 : Option Value), LI h9 x q9 A9 μ9 → Ex (l, G, 40, mc, ms, h0, Q) mLaw_law 1100 [some (.ref sr), some (.ref x), some (.ref (x + 97)), some (.ref (x + 130)), some (.int (nI i)), w5, w6] [] h9 (k + 1) (n + 6)) : Ex (l, G, 40, mc, ms, h0, Q) mLaw_law 775 [some (.ref sr), some (.ref x), some (.ref (x + 97)), some (.ref (x + 130)), some (.int (nI i)), v5, v6] [] h k n := by
  obtain ⟨hPS, hMM, hRm, hEn, hPB, hz⟩ := HI
  refine ex_aload_n dLaw_law_775 rfl ?_
  refine ex_aload_n dLaw_law_776 rfl ?_
  refine ex_callR dLaw_law_777 (go_s (As := [.ref x, .ref (x + 130)]) (rest := []) dLaw_law_777 is_Law_106 cd_Law_write ar_Law_write rfl) cd_Law_write (c_Law_write (d := 0) hPS (by omega) hz) (Nat.le_of_ble_eq_true rfl) (Nat.le_of_ble_eq_true rfl) hk hn (fun E h9 q9 => absurd q9.1 (by simp)) (fun v1 h1 hq => ?_)
  obtain ⟨e, hPS1, hfr, g, hg, hg0⟩ := hq
  cases e
  refine ex_istore (L' := [_, _, _, _, _, _, _]) dLaw_law_780 (by decide) rfl ?_
  have hMM1 : MM h1 (x + 97) μ := hMM.fe (fun p a b => hfr p (by omega) (by omega))
  refine ex_aload_n dLaw_law_782 rfl ?_
  refine ex_callR dLaw_law_783 (go_v (As := []) (rest := []) dLaw_law_783 iv_Law_109 cd_Mod_write ar_Mod_write hMM1.1 rfl) cd_Mod_write (c_Mod_write (d := 0) hRm.1 hRm.2.2.1 h1 hMM1) (Nat.le_of_ble_eq_true rfl) (Nat.le_of_ble_eq_true rfl) hk hn (fun E h9 q9 => by obtain ⟨μ9, hw9, -⟩ := q9; obtain ⟨v9, e9⟩ := (wr_ms hRm hw9).2.2.1; simp at e9) (fun v2 h2 hq => ?_)
  obtain ⟨μ2, hWr, hMM2, hF2⟩ := hq
  have hMs : Ms thr2 (mdWrite A) _ μ2 := wr_ms hRm hWr
  obtain ⟨w, hw⟩ := hMs.2.2.1
  cases hw
  have hst := st_write hEn hRm.lens.1
  exact law_tail (th := thr2) (rA := mdWrite A) dLaw_law_786 dLaw_law_788 dLaw_law_789 dLaw_law_792 dLaw_law_794 dLaw_law_799 dLaw_law_801 dLaw_law_804 dLaw_law_805 dLaw_law_806 dLaw_law_807 dLaw_law_809 dLaw_law_810 dLaw_law_811 dLaw_law_816 (by decide) (fun o ho => thr2_0 ho) (hPS1.fe (fun p a b => hF2.2 p (by omega))) hMM2 hMs ⟨g, (hF2.2 _ (by omega)).trans hg, hg0⟩ hst.1 hst.2 (pb_fold _ hPB) hk hn (fun h9 w5 w6 hI => kk h9 _ _ _ w5 w6 hI)
theorem law_analyse (HI : LI h x q A μ) (hro : G.2.2 sr = some (N, f)) (hi : i + 5 ≤ N) (hN : N < 2 ^ 31) (hk : k + 1 ≤ mc) (hn : n + 6 ≤ ms) (kk : ∀ (h9 : xH) (q9 : xQ) (A9 : xMA) (μ9 : xMu) (w5 w6 : Option Value), LI h9 x q9 A9 μ9 → Ex (l, G, 40, mc, ms, h0, Q) mLaw_law 1100 [some (.ref sr), some (.ref x), some (.ref (x + 97)), some (.ref (x + 130)), some (.int (nI i)), w5, w6] [] h9 (k + 1) (n + 6)) : Ex (l, G, 40, mc, ms, h0, Q) mLaw_law 819 [some (.ref sr), some (.ref x), some (.ref (x + 97)), some (.ref (x + 130)), some (.int (nI i)), v5, v6] [] h k n := by
  obtain ⟨hPS, hMM, hRm, hEn, hPB, hz⟩ := HI
  refine ex_aload_n dLaw_law_819 rfl ?_
  refine ex_aload_n dLaw_law_820 rfl ?_
  refine ex_callR dLaw_law_821 (go_s (As := [.ref x, .ref (x + 130)]) (rest := []) dLaw_law_821 is_Law_110 cd_Law_analyse ar_Law_analyse rfl) cd_Law_analyse (c_Law_analyse (d := 0) hPS (by omega) hz) (Nat.le_of_ble_eq_true rfl) (Nat.le_of_ble_eq_true rfl) hk hn (fun E h9 q9 => absurd q9.1 (by simp)) (fun v1 h1 hq => ?_)
  obtain ⟨e, hPS1, hfr, g, hg, hg0⟩ := hq
  cases e
  refine ex_istore (L' := [_, _, _, _, _, _, _]) dLaw_law_824 (by decide) rfl ?_
  have hMM1 : MM h1 (x + 97) μ := hMM.fe (fun p a b => hfr p (by omega) (by omega))
  refine ex_aload_n dLaw_law_826 rfl ?_
  refine ex_callR dLaw_law_827 (go_v (As := []) (rest := []) dLaw_law_827 iv_Law_112 cd_Mod_analyse ar_Mod_analyse hMM1.1 rfl) cd_Mod_analyse (c_Mod_analyse (d := 0) hRm.1 hRm.2.1 hRm.2.2.1 h1 hMM1) (Nat.le_of_ble_eq_true rfl) (Nat.le_of_ble_eq_true rfl) hk hn (fun E h9 q9 => by obtain ⟨μ9, hw9, -⟩ := q9; obtain ⟨v9, e9⟩ := (wr_ms hRm hw9).2.2.1; simp at e9) (fun v2 h2 hq => ?_)
  obtain ⟨μ2, hWr, hMM2, hF2⟩ := hq
  have hMs : Ms thr2 (mdAna A) _ μ2 := wr_ms hRm hWr
  obtain ⟨w, hw⟩ := hMs.2.2.1
  cases hw
  have hst := st_ana hEn hRm.lens.2.1
  exact law_tail (th := thr2) (rA := mdAna A) dLaw_law_830 dLaw_law_832 dLaw_law_833 dLaw_law_836 dLaw_law_838 dLaw_law_843 dLaw_law_845 dLaw_law_848 dLaw_law_849 dLaw_law_850 dLaw_law_851 dLaw_law_853 dLaw_law_854 dLaw_law_855 dLaw_law_860 (by decide) (fun o ho => thr2_0 ho) (hPS1.fe (fun p a b => hF2.2 p (by omega))) hMM2 hMs ⟨g, (hF2.2 _ (by omega)).trans hg, hg0⟩ hst.1 hst.2 (pb_fold _ hPB) hk hn (fun h9 w5 w6 hI => kk h9 _ _ _ w5 w6 hI)
theorem law_length (HI : LI h x q A μ) (hro : G.2.2 sr = some (N, f)) (hi : i + 5 ≤ N) (hN : N < 2 ^ 31) (hk : k + 1 ≤ mc) (hn : n + 6 ≤ ms) (kk : ∀ (h9 : xH) (q9 : xQ) (A9 : xMA) (μ9 : xMu) (w5 w6 : Option Value), LI h9 x q9 A9 μ9 → Ex (l, G, 40, mc, ms, h0, Q) mLaw_law 1100 [some (.ref sr), some (.ref x), some (.ref (x + 97)), some (.ref (x + 130)), some (.int (nI i)), w5, w6] [] h9 (k + 1) (n + 6)) : Ex (l, G, 40, mc, ms, h0, Q) mLaw_law 863 [some (.ref sr), some (.ref x), some (.ref (x + 97)), some (.ref (x + 130)), some (.int (nI i)), v5, v6] [] h k n := by
  obtain ⟨hPS, hMM, hRm, hEn, hPB, hz⟩ := HI
  refine ex_aload_n dLaw_law_863 rfl ?_
  refine law_arg (c := 1) dLaw_law_864 dLaw_law_865 dLaw_law_867 (by decide) dLaw_law_868 dLaw_law_869 rfl rfl hro (by omega) hN ?_
  refine law_arg (c := 2) dLaw_law_870 dLaw_law_871 dLaw_law_873 (by decide) dLaw_law_874 dLaw_law_875 rfl rfl hro (by omega) hN ?_
  refine law_bool dLaw_law_876 dLaw_law_879 dLaw_law_880 dLaw_law_883 ?_
  refine ex_aload_n dLaw_law_884 rfl ?_
  refine ex_callR dLaw_law_885 (go_s (As := [.ref x, .int (f (i + 1)), .int (bI (f (i + 2) != 0)), .ref (x + 130)]) (rest := []) dLaw_law_885 is_Law_113 cd_Law_length ar_Law_length rfl) cd_Law_length (c_Law_length (d := 0) (a1 := f (i + 1)) (b2 := (f (i + 2) != 0)) hPS (by omega) hz) (Nat.le_of_ble_eq_true rfl) (Nat.le_of_ble_eq_true rfl) hk hn (fun E h9 q9 => absurd q9.1 (by simp)) (fun v1 h1 hq => ?_)
  obtain ⟨e, hPS1, hfr, g, hg, hg0⟩ := hq
  cases e
  refine ex_istore (L' := [_, _, _, _, _, _, _]) dLaw_law_888 (by decide) rfl ?_
  have hMM1 : MM h1 (x + 97) μ := hMM.fe (fun p a b => hfr p (by omega) (by omega))
  refine ex_aload_n dLaw_law_890 rfl ?_
  refine law_arg (c := 1) dLaw_law_891 dLaw_law_892 dLaw_law_894 (by decide) dLaw_law_895 dLaw_law_896 rfl rfl hro (by omega) hN ?_
  refine law_arg (c := 2) dLaw_law_897 dLaw_law_898 dLaw_law_900 (by decide) dLaw_law_901 dLaw_law_902 rfl rfl hro (by omega) hN ?_
  refine law_bool dLaw_law_903 dLaw_law_906 dLaw_law_907 dLaw_law_910 ?_
  refine ex_callR dLaw_law_911 (go_v (As := [.int (f (i + 1)), .int (bI (f (i + 2) != 0))]) (rest := []) dLaw_law_911 iv_Law_116 cd_Mod_length ar_Mod_length hMM1.1 rfl) cd_Mod_length (c_Mod_length (d := 0) hRm h1 hMM1) (Nat.le_of_ble_eq_true rfl) (Nat.le_of_ble_eq_true rfl) hk hn (fun E h9 q9 => by obtain ⟨μ9, hw9, -⟩ := q9; obtain ⟨v9, e9⟩ := hw9.2.2.1; simp at e9) (fun v2 h2 hq => ?_)
  obtain ⟨μ2, hMs, hMM2, hF2⟩ := hq
  obtain ⟨w, hw⟩ := hMs.2.2.1
  cases hw
  have hst := st_len hEn (f (i + 1)) (f (i + 2) != 0)
  have hst2 : zEn (mdLen A (f (i + 1)) (f (i + 2) != 0)).2 (opLen q (f (i + 1)) (f (i + 2) != 0)).2 := by rw [hst.2.1, hst.2.2]; exact hEn
  have hpb : PB (mdLen A (f (i + 1)) (f (i + 2) != 0)).2.1.1 := by rw [hst.2.2]; exact hPB
  exact law_tail (th := thr1) (rA := mdLen A (f (i + 1)) (f (i + 2) != 0)) dLaw_law_914 dLaw_law_916 dLaw_law_917 dLaw_law_920 dLaw_law_922 dLaw_law_927 dLaw_law_929 dLaw_law_932 dLaw_law_933 dLaw_law_934 dLaw_law_935 dLaw_law_937 dLaw_law_938 dLaw_law_939 dLaw_law_944 (by decide) (fun o ho => thr1_0 ho) (hPS1.fe (fun p a b => hF2.2 p (by omega))) hMM2 hMs ⟨g, (hF2.2 _ (by omega)).trans hg, hg0⟩ hst.1 hst2 hpb hk hn (fun h9 w5 w6 hI => kk h9 _ _ _ w5 w6 hI)
theorem law_result (HI : LI h x q A μ) (hro : G.2.2 sr = some (N, f)) (hi : i + 5 ≤ N) (hN : N < 2 ^ 31) (hk : k + 1 ≤ mc) (hn : n + 6 ≤ ms) (kk : ∀ (h9 : xH) (q9 : xQ) (A9 : xMA) (μ9 : xMu) (w5 w6 : Option Value), LI h9 x q9 A9 μ9 → Ex (l, G, 40, mc, ms, h0, Q) mLaw_law 1100 [some (.ref sr), some (.ref x), some (.ref (x + 97)), some (.ref (x + 130)), some (.int (nI i)), w5, w6] [] h9 (k + 1) (n + 6)) : Ex (l, G, 40, mc, ms, h0, Q) mLaw_law 947 [some (.ref sr), some (.ref x), some (.ref (x + 97)), some (.ref (x + 130)), some (.int (nI i)), v5, v6] [] h k n := by
  obtain ⟨hPS, hMM, hRm, hEn, hPB, hz⟩ := HI
  refine ex_aload_n dLaw_law_947 rfl ?_
  refine law_arg (c := 1) dLaw_law_948 dLaw_law_949 dLaw_law_951 (by decide) dLaw_law_952 dLaw_law_953 rfl rfl hro (by omega) hN ?_
  refine law_arg (c := 2) dLaw_law_954 dLaw_law_955 dLaw_law_957 (by decide) dLaw_law_958 dLaw_law_959 rfl rfl hro (by omega) hN ?_
  refine law_arg (c := 3) dLaw_law_960 dLaw_law_961 dLaw_law_963 (by decide) dLaw_law_964 dLaw_law_965 rfl rfl hro (by omega) hN ?_
  refine law_bool dLaw_law_966 dLaw_law_969 dLaw_law_970 dLaw_law_973 ?_
  refine ex_aload_n dLaw_law_974 rfl ?_
  have HK : ∀ k ∈ q.2.2.2.2.2, VK k := fun k hk9 => (hRm.2.2.2.2.2.2.2 k (by rw [← hEn.2]; exact hk9)).vk
  refine ex_callR dLaw_law_975 (go_s (As := [.ref x, .int (f (i + 1)), .int (f (i + 2)), .int (bI (f (i + 3) != 0)), .ref (x + 130)]) (rest := []) dLaw_law_975 is_Law_117 cd_Law_result ar_Law_result rfl) cd_Law_result (c_Law_result (d := 0) (a1 := f (i + 1)) (a2 := f (i + 2)) (b3 := (f (i + 3) != 0)) HK hPS (by omega) hz) (Nat.le_of_ble_eq_true rfl) (Nat.le_of_ble_eq_true rfl) hk hn (fun E h9 q9 => absurd q9.1 (by simp)) (fun v1 h1 hq => ?_)
  obtain ⟨e, hPS1, hfr, g, hg, hg0⟩ := hq
  cases e
  refine ex_istore (L' := [_, _, _, _, _, _, _]) dLaw_law_978 (by decide) rfl ?_
  have hMM1 : MM h1 (x + 97) μ := hMM.fe (fun p a b => hfr p (by omega) (by omega))
  refine ex_aload_n dLaw_law_980 rfl ?_
  refine law_arg (c := 1) dLaw_law_981 dLaw_law_982 dLaw_law_984 (by decide) dLaw_law_985 dLaw_law_986 rfl rfl hro (by omega) hN ?_
  refine law_arg (c := 2) dLaw_law_987 dLaw_law_988 dLaw_law_990 (by decide) dLaw_law_991 dLaw_law_992 rfl rfl hro (by omega) hN ?_
  refine law_arg (c := 3) dLaw_law_993 dLaw_law_994 dLaw_law_996 (by decide) dLaw_law_997 dLaw_law_998 rfl rfl hro (by omega) hN ?_
  refine law_bool dLaw_law_999 dLaw_law_1002 dLaw_law_1003 dLaw_law_1006 ?_
  refine ex_callR dLaw_law_1007 (go_v (As := [.int (f (i + 1)), .int (f (i + 2)), .int (bI (f (i + 3) != 0))]) (rest := []) dLaw_law_1007 iv_Law_120 cd_Mod_result ar_Mod_result hMM1.1 rfl) cd_Mod_result (c_Mod_result (d := 0) hRm h1 hMM1) (Nat.le_of_ble_eq_true rfl) (Nat.le_of_ble_eq_true rfl) hk hn (fun E h9 q9 => by obtain ⟨μ9, hw9, -⟩ := q9; obtain ⟨v9, e9⟩ := hw9.2.2.1; simp at e9) (fun v2 h2 hq => ?_)
  obtain ⟨μ2, hMs, hMM2, hF2⟩ := hq
  obtain ⟨w, hw⟩ := hMs.2.2.1
  cases hw
  have hst := st_res hEn (f (i + 1)) (f (i + 2)) (f (i + 3) != 0)
  have hst2 : zEn (mdRes A (f (i + 1)) (f (i + 2)) (f (i + 3) != 0)).2 (opRes q (f (i + 1)) (f (i + 2)) (f (i + 3) != 0)).2 := by rw [hst.2.1, hst.2.2]; exact hEn
  have hpb : PB (mdRes A (f (i + 1)) (f (i + 2)) (f (i + 3) != 0)).2.1.1 := by rw [hst.2.2]; exact hPB
  exact law_tail (th := thr1) (rA := mdRes A (f (i + 1)) (f (i + 2)) (f (i + 3) != 0)) dLaw_law_1010 dLaw_law_1012 dLaw_law_1013 dLaw_law_1016 dLaw_law_1018 dLaw_law_1023 dLaw_law_1025 dLaw_law_1028 dLaw_law_1029 dLaw_law_1030 dLaw_law_1031 dLaw_law_1033 dLaw_law_1034 dLaw_law_1035 dLaw_law_1040 (by decide) (fun o ho => thr1_0 ho) (hPS1.fe (fun p a b => hF2.2 p (by omega))) hMM2 hMs ⟨g, (hF2.2 _ (by omega)).trans hg, hg0⟩ hst.1 hst2 hpb hk hn (fun h9 w5 w6 hI => kk h9 _ _ _ w5 w6 hI)
theorem law_sample (HI : LI h x q A μ) (hro : G.2.2 sr = some (N, f)) (hi : i + 5 ≤ N) (hN : N < 2 ^ 31) (hk : k + 1 ≤ mc) (hn : n + 6 ≤ ms) (kk : ∀ (h9 : xH) (q9 : xQ) (A9 : xMA) (μ9 : xMu) (w5 w6 : Option Value), LI h9 x q9 A9 μ9 → Ex (l, G, 40, mc, ms, h0, Q) mLaw_law 1100 [some (.ref sr), some (.ref x), some (.ref (x + 97)), some (.ref (x + 130)), some (.int (nI i)), w5, w6] [] h9 (k + 1) (n + 6)) : Ex (l, G, 40, mc, ms, h0, Q) mLaw_law 1043 [some (.ref sr), some (.ref x), some (.ref (x + 97)), some (.ref (x + 130)), some (.int (nI i)), v5, v6] [] h k n := by
  obtain ⟨hPS, hMM, hRm, hEn, hPB, hz⟩ := HI
  refine ex_aload_n dLaw_law_1043 rfl ?_
  refine ex_aload_n dLaw_law_1044 rfl ?_
  refine ex_callR dLaw_law_1045 (go_s (As := [.ref x, .ref (x + 130)]) (rest := []) dLaw_law_1045 is_Law_121 cd_Law_sample ar_Law_sample rfl) cd_Law_sample (c_Law_sample (d := 0) hPS (by omega) hz) (Nat.le_of_ble_eq_true rfl) (Nat.le_of_ble_eq_true rfl) hk hn (fun E h9 q9 => absurd q9.1 (by simp)) (fun v1 h1 hq => ?_)
  obtain ⟨e, hPS1, hfr, g, hg, hg0⟩ := hq
  cases e
  refine ex_istore (L' := [_, _, _, _, _, _, _]) dLaw_law_1048 (by decide) rfl ?_
  have hMM1 : MM h1 (x + 97) μ := hMM.fe (fun p a b => hfr p (by omega) (by omega))
  refine ex_aload_n dLaw_law_1050 rfl ?_
  refine ex_callR dLaw_law_1051 (go_v (As := []) (rest := []) dLaw_law_1051 iv_Law_123 cd_Mod_sample ar_Mod_sample hMM1.1 rfl) cd_Mod_sample (c_Mod_sample (d := 0) hRm h1 hMM1) (Nat.le_of_ble_eq_true rfl) (Nat.le_of_ble_eq_true rfl) hk hn (fun E h9 q9 => by obtain ⟨μ9, hw9, -⟩ := q9; obtain ⟨v9, e9⟩ := hw9.2.2.1; simp at e9) (fun v2 h2 hq => ?_)
  obtain ⟨μ2, hMs, hMM2, hF2⟩ := hq
  obtain ⟨w, hw⟩ := hMs.2.2.1
  cases hw
  have hst := st_sample hEn
  exact law_tail (th := thr2) (rA := mdSample A) dLaw_law_1054 dLaw_law_1056 dLaw_law_1057 dLaw_law_1060 dLaw_law_1062 dLaw_law_1067 dLaw_law_1069 dLaw_law_1072 dLaw_law_1073 dLaw_law_1074 dLaw_law_1075 dLaw_law_1077 dLaw_law_1078 dLaw_law_1079 dLaw_law_1084 (by decide) (fun o ho => thr2_0 ho) (hPS1.fe (fun p a b => hF2.2 p (by omega))) hMM2 hMs ⟨g, (hF2.2 _ (by omega)).trans hg, hg0⟩ hst.1 hst.2 (pb_sample hPB) hk hn (fun h9 w5 w6 hI => kk h9 _ _ _ w5 w6 hI)
theorem law_check (HI : LI h x q A μ) (hro : G.2.2 sr = some (N, f)) (hi : i + 5 ≤ N) (hN : N < 2 ^ 31) (hk : k + 1 ≤ mc) (hn : n + 6 ≤ ms) (kk : ∀ (h9 : xH) (q9 : xQ) (A9 : xMA) (μ9 : xMu) (w5 w6 : Option Value), LI h9 x q9 A9 μ9 → Ex (l, G, 40, mc, ms, h0, Q) mLaw_law 1100 [some (.ref sr), some (.ref x), some (.ref (x + 97)), some (.ref (x + 130)), some (.int (nI i)), w5, w6] [] h9 (k + 1) (n + 6)) : Ex (l, G, 40, mc, ms, h0, Q) mLaw_law 1087 [some (.ref sr), some (.ref x), some (.ref (x + 97)), some (.ref (x + 130)), some (.int (nI i)), v5, v6] [] h k n := by
  obtain ⟨hPS, hMM, hRm, hEn, hPB, hz⟩ := HI
  refine ex_aload_n dLaw_law_1087 rfl ?_
  have hst := st_check hEn hRm.lens.2.2.2
  have hs : ∃ v : Int32, (opCheck q).1 = rI v := ⟨_, rfl⟩
  obtain ⟨v, hv⟩ := hs
  refine ex_callR dLaw_law_1088 (go_v (As := []) (rest := []) dLaw_law_1088 iv_Law_124 cd_PW_check ar_PW_check hPS.1 rfl) cd_PW_check (c_PW_check (d := 0) hPS) (Nat.le_of_ble_eq_true rfl) (Nat.le_of_ble_eq_true rfl) hk hn (fun E h9 q9 => by have e9 := q9.1; rw [hv] at e9; simp at e9) (fun v1 h1 hq => ?_)
  obtain ⟨e, hPS1, hfr⟩ := hq
  rw [hv] at e
  cases e
  have hMM1 : MM h1 (x + 97) μ := hMM.fe (fun p a b => hfr p (by omega))
  refine ex_aload_n dLaw_law_1091 rfl ?_
  refine ex_callR dLaw_law_1092 (go_v (As := []) (rest := [.int v]) dLaw_law_1092 iv_Law_127 cd_Mod_check ar_Mod_check hMM1.1 rfl) cd_Mod_check (c_Mod_check (d := 0) hRm.1 hRm.2.2.2.1 h1 hMM1) (Nat.le_of_ble_eq_true rfl) (Nat.le_of_ble_eq_true rfl) hk hn (fun E h9 q9 => by obtain ⟨μ9, hw9, -⟩ := q9; exact absurd hw9.1 (by simp)) (fun v2 h2 hq => ?_)
  obtain ⟨μ2, ⟨e2, hPe, -⟩, hMM2, hF2⟩ := hq
  have e3 : (Sum.inl v2 : xO) = rI v := e2.trans (hst.1.symm.trans hv)
  cases e3
  have hI : LI h2 x q A μ2 := ⟨hPS1.fe (fun p a b => hF2.2 p (by omega)), hMM2, hRm.pe hPe, hEn, hPB, by obtain ⟨g, hg⟩ := hz; exact ⟨g, (hF2.2 _ (by omega)).trans ((hfr _ (by omega)).trans hg)⟩⟩
  exact ex_icmp_eq (tgt := 1100) dLaw_law_1095 (by decide) (fun _ => kk h2 _ _ _ _ _ hI) (fun hc => absurd rfl hc)
end LAW
