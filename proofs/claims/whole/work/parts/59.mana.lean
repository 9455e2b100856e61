/-! The reference: isFound, analyse. -/
def Re (μ : xMu) (es : List xEn) : Prop := μ 0 12 = nI es.length ∧ es.length ≤ 8 ∧ (∀ j, j < es.length → μ 10 j = nI (es.getD j en0).1 ∧ μ 11 j = eN (es.getD j en0).2.1) ∧ (∀ j, j < 8 → μ 12 j = nI (esg es j).length) ∧ (∀ j, j < 8 → ∀ k, k < (esg es j).length → μ 13 (3 * j + k) = nI ((esg es j).getD k 0)) ∧ (∀ j, (esg es j).length ≤ 3) ∧ EB es
theorem Re.eq {μ μ' : xMu} {es : List xEn} (H : Re μ es) (e : ∀ a b : Nat, (a = 0 ∧ b = 12) ∨ (10 ≤ a ∧ a ≤ 13) → μ' a b = μ a b) : Re μ' es := by
  obtain ⟨h1, h2, h3, h4, h5, h6⟩ := H
  exact ⟨(e _ _ (by omega)).trans h1, h2, fun j hj => ⟨(e _ _ (by omega)).trans (h3 j hj).1, (e _ _ (by omega)).trans (h3 j hj).2⟩, fun j hj => (e _ _ (by omega)).trans (h4 j hj), fun j hj k hk => (e _ _ (by omega)).trans (h5 j hj k hk), h6⟩
theorem Re.pe {μ μ' : xMu} {es : List xEn} (H : Re μ es) (e : Pe μ μ') : Re μ' es := H.eq (fun a b h => e a b (by omega))
def ews (es : List xEn) (wd : List Nat) : List Nat := wd.flatMap (esg es)
theorem ews_snoc (es : List xEn) (wd : List Nat) (e : Nat) : ews es (wd ++ [e]) = ews es wd ++ esg es e := by simp [ews]
def chB (es : List xEn) (wd : List Nat) : Bool := (decide ((es.getD (wd.getD 0 0) en0).1 = 0) && decide ((es.getD (wd.getD (wd.length - 1) 0) en0).2.1 = none)) && (List.range' 1 (wd.length - 1)).all (fun i => decide ((es.getD (wd.getD (i - 1) 0) en0).2.1 = some (es.getD (wd.getD i 0) en0).1))
def fdB (V : xV) (es : List xEn) (u : List Nat) (wd : List Nat) : Bool := chB es wd && decide ((ews es wd).length ≤ 4) && belB V (ews es wd) u
def ak (es : List xEn) (wd : List Nat) : Nat := kk (ews es wd).length (val8 (ews es wd)) wd.length (val8 wd)
def Qf (μ μ' : xMu) : Prop := ∀ a b : Nat, ¬ ((a = 0 ∧ (b = 32 ∨ b = 36)) ∨ a = 26 ∨ (28 ≤ a ∧ a ≤ 31) ∨ (20 ≤ a ∧ a ≤ 23)) → μ' a b = μ a b
theorem Qf.rf {μ : xMu} : Qf μ μ := fun _ _ _ => rfl
theorem Qf.trans {μ μ1 μ2 : xMu} (a : Qf μ μ1) (b : Qf μ1 μ2) : Qf μ μ2 := fun x y h => (b x y h).trans (a x y h)
theorem Qf.up {μ μ1 : xMu} {k j : Nat} {v : Int32} (a : Qf μ μ1) (h : (k = 0 ∧ (j = 32 ∨ j = 36)) ∨ k = 26 ∨ (28 ≤ k ∧ k ≤ 31) ∨ (20 ≤ k ∧ k ≤ 23)) : Qf μ (mup μ1 k j v) := fun x y hn => by
  rw [mup_ne _ _ (by
    by_cases e : x = k
    · by_cases e2 : y = j
      · exact absurd (by rw [e, e2]; exact h) hn
      · exact Or.inr e2
    · exact Or.inl e)]
  exact a x y hn
theorem Qf.pe {μ μ1 : xMu} (a : Qf μ μ1) : Pe μ μ1 := fun x y h => a x y (by omega)
/-- the given upper form -/
def Ru9 (μ : xMu) (u : List Nat) : Prop := μ 0 34 = nI u.length ∧ (∀ i, i < u.length → μ 27 i = nI (u.getD i 0)) ∧ u.length ≤ 5 ∧ ∀ i, u.getD i 0 < 8
theorem Ru9.qf {μ μ' : xMu} {u : List Nat} (H : Ru9 μ u) (e : Qf μ μ') : Ru9 μ' u := ⟨(e _ _ (by omega)).trans H.1, fun i hi => (e _ _ (by omega)).trans (H.2.1 i hi), H.2.2⟩
def Rwd (μ : xMu) (es : List xEn) (wd : List Nat) : Prop := (∀ i, i < wd.length → μ 32 i = nI (wd.getD i 0)) ∧ ∀ e ∈ wd, e < es.length
theorem eN_eq {nx : Option Nat} {p : Nat} (hp : p < 4) (hn : ∀ z, nx = some z → z < 4) : eN nx = nI p ↔ nx = some p := by
  cases nx with
  | none =>
    have : ∀ p, p < 4 → ¬ ((-1 : Int32) = nI p) := by decide
    exact ⟨fun h => absurd h (this p hp), fun h => by cases h⟩
  | some z =>
    have hz := hn z rfl
    show nI z = nI p ↔ _
    rw [nI_eq (by omega) (by omega)]
    exact ⟨fun h => by rw [h], fun h => Option.some.inj h⟩
theorem eN_none {nx : Option Nat} (hn : ∀ z, nx = some z → z < 4) : eN nx = -1 ↔ nx = none := by
  cases nx with
  | none => exact ⟨fun _ => rfl, fun _ => rfl⟩
  | some z =>
    have hz := hn z rfl
    have : ∀ p, p < 4 → ¬ (nI p = (-1 : Int32)) := by decide
    exact ⟨fun h => absurd h (this z hz), fun h => by cases h⟩
theorem esg_lt {es : List xEn} (hB : EB es) (e i : Nat) : (esg es e).getD i 0 < 8 := by
  unfold esg
  by_cases h : e < es.length
  · exact (hB _ (getD_mem h)).2.2 i
  · rw [getD_len (l := es) (by omega)]; simp
theorem ews_lt {es : List xEn} (hB : EB es) (wd : List Nat) : ∀ x ∈ ews es wd, x < 8 := by
  intro x hx
  obtain ⟨e, -, he⟩ := List.mem_flatMap.mp hx
  obtain ⟨i, hi, q⟩ := List.getElem_of_mem he
  have := esg_lt hB e i
  rw [List.getD_eq_getElem?_getD, List.getElem?_eq_getElem hi, Option.getD_some, q] at this
  exact this
theorem getD_lt8 {w : List Nat} (h : ∀ x ∈ w, x < 8) (i : Nat) : w.getD i 0 < 8 := by
  by_cases hi : i < w.length
  · exact h _ (getD_mem hi)
  · rw [getD_len (by omega)]; decide
section MANA
variable {l : Launch} {G : xG} {d m : Nat} {μ : xMu} {V : xV} {es : List xEn} {u : List Nat} {ks : List Nat}
theorem c_Mod_isFound {wd : List Nat} (h1 : 1 ≤ wd.length) (h4 : wd.length ≤ 4) (HV : Rv μ V) (HE : Re μ es) (HU : Ru9 μ u) (HF : Fo μ ks) (HW : Rwd μ es wd) : Mc l G mMod_isFound (d + 8) m [.ref m, .int (nI wd.length)] μ (fun o μ' => o = rI (bI (fdB V es u wd)) ∧ Fo μ' ks ∧ (fdB V es u wd = true → Fk μ' ks.length (ak es wd)) ∧ Qf μ μ') := by
  obtain ⟨e1, e2, e3, e4, e5, e6, hB⟩ := id HE
  obtain ⟨w1, w2⟩ := id HW
  have hwd : ∀ i, i < wd.length → wd.getD i 0 < es.length := fun i hi => w2 _ (getD_mem hi)
  have hb4 : ∀ i, i < wd.length → (es.getD (wd.getD i 0) en0).1 < 4 ∧ ∀ z, (es.getD (wd.getD i 0) en0).2.1 = some z → z < 4 := fun i hi => by
    have q := hB _ (getD_mem (d := en0) (hwd i hi))
    exact ⟨q.1, q.2.1⟩
  have t212 : ∀ (μ1 : xMu) (is : Bool) (sz tx ls : Nat) x6 x7 x8, Qf μ μ1 → (∀ a b : Nat, ¬ a = 26 → μ1 a b = μ a b) → sz ≤ 4 → (is = true → chB es wd = true ∧ sz = (ews es wd).length ∧ tx = val8 (ews es wd) ∧ ls = val8 wd ∧ ∀ i, i < (ews es wd).length → μ1 26 i = nI ((ews es wd).getD i 0)) → (is = false → fdB V es u wd = false) → Mj (l, G, d + 8, m, fun o μ' => o = rI (bI (fdB V es u wd)) ∧ Fo μ' ks ∧ (fdB V es u wd = true → Fk μ' ks.length (ak es wd)) ∧ Qf μ μ') mMod_isFound 212 [some (.ref m), some (.int (nI wd.length)), some (.int (bI is)), some (.int (nI (sz))), some (.int (nI (tx))), some (.int (nI (ls))), x6, x7, x8] [] μ1 := by
    intro μ1 is sz tx ls x6 x7 x8 QF N26 hsz hT hF
    obtain ⟨f1, f2, f3, f4, f5⟩ := HF.eq (μ' := μ1) (fun a b h => N26 a b (by omega))
    have HF1 : Fo μ1 ks := HF.eq (fun a b h => N26 a b (by omega))
    refine mj_aload_n dMod_isFound_212 rfl ?_
    refine mj_iload_n dMod_isFound_213 rfl ?_
    refine mj_put dMod_isFound_214 (fp_Mod_153 _) (by decide) ?_
    refine mj_aload_n dMod_isFound_217 rfl ?_
    refine mj_get dMod_isFound_218 fg_Mod_68 rfl ?_
    refine mj_aload_n dMod_isFound_221 rfl ?_
    refine mj_get dMod_isFound_222 fg_Mod_181 rfl ?_
    refine mj_iload_n dMod_isFound_225 rfl ?_
    refine mj_iastore dMod_isFound_226 (by decide) (by rw [mup_j _ _ (by decide)]; exact f1) (show _ < 61 by omega) (by decide) ?_
    refine mj_aload_n dMod_isFound_227 rfl ?_
    refine mj_get dMod_isFound_228 fg_Mod_71 rfl ?_
    refine mj_aload_n dMod_isFound_231 rfl ?_
    refine mj_get dMod_isFound_232 fg_Mod_181 rfl ?_
    refine mj_iload dMod_isFound_235 rfl ?_
    refine mj_iastore dMod_isFound_237 (by decide) (by rw [mup_k _ _ (by decide), mup_j _ _ (by decide)]; exact f1) (show _ < 61 by omega) (by decide) ?_
    refine mj_aload_n dMod_isFound_238 rfl ?_
    refine mj_get dMod_isFound_239 fg_Mod_74 rfl ?_
    refine mj_aload_n dMod_isFound_242 rfl ?_
    refine mj_get dMod_isFound_243 fg_Mod_181 rfl ?_
    refine mj_iload_n dMod_isFound_246 rfl ?_
    refine mj_iastore dMod_isFound_247 (by decide) (by rw [mup_k _ _ (by decide), mup_k _ _ (by decide), mup_j _ _ (by decide)]; exact f1) (show _ < 61 by omega) (by decide) ?_
    refine mj_aload_n dMod_isFound_248 rfl ?_
    refine mj_get dMod_isFound_249 fg_Mod_77 rfl ?_
    refine mj_aload_n dMod_isFound_252 rfl ?_
    refine mj_get dMod_isFound_253 fg_Mod_181 rfl ?_
    refine mj_iload dMod_isFound_256 rfl ?_
    refine mj_iastore dMod_isFound_258 (by decide) (by rw [mup_k _ _ (by decide), mup_k _ _ (by decide), mup_k _ _ (by decide), mup_j _ _ (by decide)]; exact f1) (show _ < 61 by omega) (by decide) ?_
    have Q2 : Qf μ (mup (mup (mup (mup (mup μ1 0 32 (nI sz)) 20 ks.length (nI sz)) 21 ks.length (nI tx)) 22 ks.length (nI wd.length)) 23 ks.length (nI ls)) := ((((QF.up (by omega)).up (by omega)).up (by omega)).up (by omega)).up (by omega)
    have F2 : Fo (mup (mup (mup (mup (mup μ1 0 32 (nI sz)) 20 ks.length (nI sz)) 21 ks.length (nI tx)) 22 ks.length (nI wd.length)) 23 ks.length (nI ls)) ks := HF1.eq (fun x y h => by
      rcases h with h | h
      · rw [h.1, h.2, mup_k _ _ (by decide), mup_k _ _ (by decide), mup_k _ _ (by decide), mup_k _ _ (by decide), mup_j _ _ (by decide)]
      · have e : y ≠ ks.length := by omega
        rw [mup_ne _ _ (Or.inr e), mup_ne _ _ (Or.inr e), mup_ne _ _ (Or.inr e), mup_ne _ _ (Or.inr e), mup_ne _ _ (Or.inl (by omega))])
    have k1 : (mup (mup (mup (mup (mup μ1 0 32 (nI sz)) 20 ks.length (nI sz)) 21 ks.length (nI tx)) 22 ks.length (nI wd.length)) 23 ks.length (nI ls)) 20 ks.length = nI sz := by rw [mup_k _ _ (by decide), mup_k _ _ (by decide), mup_k _ _ (by decide), mup_s]
    have k2 : (mup (mup (mup (mup (mup μ1 0 32 (nI sz)) 20 ks.length (nI sz)) 21 ks.length (nI tx)) 22 ks.length (nI wd.length)) 23 ks.length (nI ls)) 21 ks.length = nI tx := by rw [mup_k _ _ (by decide), mup_k _ _ (by decide), mup_s]
    have k3 : (mup (mup (mup (mup (mup μ1 0 32 (nI sz)) 20 ks.length (nI sz)) 21 ks.length (nI tx)) 22 ks.length (nI wd.length)) 23 ks.length (nI ls)) 22 ks.length = nI wd.length := by rw [mup_k _ _ (by decide), mup_s]
    have k4 : (mup (mup (mup (mup (mup μ1 0 32 (nI sz)) 20 ks.length (nI sz)) 21 ks.length (nI tx)) 22 ks.length (nI wd.length)) 23 ks.length (nI ls)) 23 ks.length = nI ls := by rw [mup_s]
    have k5 : (mup (mup (mup (mup (mup μ1 0 32 (nI sz)) 20 ks.length (nI sz)) 21 ks.length (nI tx)) 22 ks.length (nI wd.length)) 23 ks.length (nI ls)) 0 32 = nI sz := by rw [mup_k _ _ (by decide), mup_k _ _ (by decide), mup_k _ _ (by decide), mup_k _ _ (by decide), mup_s]
    have k6 : ∀ i, (mup (mup (mup (mup (mup μ1 0 32 (nI sz)) 20 ks.length (nI sz)) 21 ks.length (nI tx)) 22 ks.length (nI wd.length)) 23 ks.length (nI ls)) 26 i = μ1 26 i := fun i => by rw [mup_k _ _ (by decide), mup_k _ _ (by decide), mup_k _ _ (by decide), mup_k _ _ (by decide), mup_k _ _ (by decide)]
    generalize mup (mup (mup (mup (mup μ1 0 32 (nI sz)) 20 ks.length (nI sz)) 21 ks.length (nI tx)) 22 ks.length (nI wd.length)) 23 ks.length (nI ls) = μ2 at *
    refine mj_iload_n dMod_isFound_259 rfl ?_
    refine mj_if_eq (tgt := 274) dMod_isFound_260 (by decide) (fun hc => ?_) (fun hc => ?_)
    · refine mj_iconst (v := nI 0) dMod_isFound_274 (by decide) ?_
      have q := hF (bI_0.mp hc)
      exact mj_zret dMod_isFound_275 rfl (by decide) ⟨by rw [q]; rfl, F2, fun z => absurd (q.symm.trans z) (by decide), Q2⟩
    obtain ⟨c1, c2, c3, c4, c5⟩ := hT (bI_1 hc)
    have hu := HU.qf Q2
    have RW : Rw μ2 (ews es wd) u := ⟨by rw [k5, c2], hu.1, fun i hi => by rw [k6]; exact c5 i hi, hu.2.1, by omega, hu.2.2.1, getD_lt8 (ews_lt hB wd), hu.2.2.2⟩
    have hd : decide ((ews es wd).length ≤ 4) = true := by simp; omega
    have kd := kk_d (s := (ews es wd).length) (t := val8 (ews es wd)) (c := wd.length) (e := val8 wd) (by omega) (val8_lt _ _ rfl (ews_lt hB wd)) h4 (val8_lt _ _ rfl (fun x hx => by have := w2 x hx; omega))
    have FK : Fk μ2 ks.length (ak es wd) := ⟨by rw [k1, ak, kd.1, c2], by rw [k2, ak, kd.2.1, c3], by rw [k3, ak, kd.2.2.1], by rw [k4, ak, kd.2.2.2, c4]⟩
    refine mj_aload_n dMod_isFound_263 rfl ?_
    refine mj_p0 dMod_isFound_264 ip_Mod_178 cd_Mod_doBelong ar_Mod_doBelong (c_Mod_doBelong (d := d) (HV.pe Q2.pe) RW) (by dsimp only; omega) (Nat.le_of_ble_eq_true rfl) (fun E m9 q9 => by simp at q9) (fun v9 μ9 hq => ?_)
    obtain ⟨e0, S3⟩ := hq
    cases e0
    have Q3 := Q2.trans (μ2 := μ9) (fun a b h => S3 a b (by omega))
    have F3 : Fo μ9 ks := F2.eq (fun a b h => S3 a b (by omega))
    have FK3 : Fk μ9 ks.length (ak es wd) := FK.eq (fun a x1 x2 => S3 _ _ (by omega))
    have hfd : fdB V es u wd = belB V (ews es wd) u := by unfold fdB; rw [c1, hd]; rfl
    refine mj_if_eq (tgt := 274) dMod_isFound_267 (by decide) (fun hc2 => ?_) (fun hc2 => ?_)
    · refine mj_iconst (v := nI 0) dMod_isFound_274 (by decide) ?_
      exact mj_zret dMod_isFound_275 rfl (by decide) ⟨by rw [hfd, bI_0.mp hc2]; rfl, F3, fun _ => FK3, Q3⟩
    · refine mj_iconst (v := nI 1) dMod_isFound_270 (by decide) ?_
      refine mj_goto (tgt := 275) dMod_isFound_271 (by decide) ?_
      exact mj_zret dMod_isFound_275 rfl (by decide) ⟨by rw [hfd, bI_1 hc2]; rfl, F3, fun _ => FK3, Q3⟩
  have sizes : ∀ (j i : Nat) (μ1 : xMu) x7 x8, i + j = wd.length → chB es wd = true → Qf μ μ1 → (∀ a b : Nat, ¬ a = 26 → μ1 a b = μ a b) → (ews es (wd.take i)).length ≤ 4 → (∀ q, q < (ews es (wd.take i)).length → μ1 26 q = nI ((ews es (wd.take i)).getD q 0)) → Mj (l, G, d + 8, m, fun o μ' => o = rI (bI (fdB V es u wd)) ∧ Fo μ' ks ∧ (fdB V es u wd = true → Fk μ' ks.length (ak es wd)) ∧ Qf μ μ') mMod_isFound 98 [some (.ref m), some (.int (nI wd.length)), some (.int (bI true)), some (.int (nI ((ews es (wd.take i)).length))), some (.int (nI (val8 (ews es (wd.take i))))), some (.int (nI (val8 (wd.take i)))), some (.int (nI (i))), x7, x8] [] μ1 := by
    intro j
    induction j with
    | zero =>
      intro i μ1 x7 x8 hij hch QF N26 hl hq
      have et : wd.take i = wd := List.take_of_length_le (by omega)
      rw [et] at hl hq ⊢
      refine mj_iload dMod_isFound_98 rfl ?_
      refine mj_iload_n dMod_isFound_100 rfl ?_
      refine mj_icmp_ge (tgt := 212) dMod_isFound_101 (by decide) (fun hc => ?_) (fun hc => ?_)
      · exact t212 μ1 true _ _ _ _ _ _ QF N26 hl (fun _ => ⟨hch, rfl, rfl, rfl, hq⟩) (fun z => by cases z)
      · exact absurd (nI_le (by omega) (by omega)) hc
    | succ j ih =>
      intro i μ1 x7 x8 hij hch QF N26 hl hq
      have hi : i < wd.length := by omega
      have hei := hwd i hi
      have hsn := ews_snoc es (wd.take i) (wd.getD i 0)
      rw [← take_snoc 0 hi] at hsn
      have hvn : val8 (wd.take (i + 1)) = 8 * val8 (wd.take i) + wd.getD i 0 := by rw [take_snoc 0 hi, val8_snoc]
      have hsp := e4 (wd.getD i 0) (by omega)
      have hsl := e6 (wd.getD i 0)
      refine mj_iload dMod_isFound_98 rfl ?_
      refine mj_iload_n dMod_isFound_100 rfl ?_
      refine mj_icmp_ge (tgt := 212) dMod_isFound_101 (by decide) (fun hc => ?_) (fun hc => ?_)
      · exact absurd hc (nI_ge (by omega) (by omega))
      refine mj_iload_n dMod_isFound_104 rfl ?_
      refine mj_if_eq (tgt := 212) dMod_isFound_105 (by decide) (fun hc2 => ?_) (fun hc2 => ?_)
      · exact absurd hc2 (by decide)
      refine mj_aload_n dMod_isFound_108 rfl ?_
      refine mj_get dMod_isFound_109 fg_Mod_104 rfl ?_
      refine mj_iload dMod_isFound_112 rfl ?_
      refine mj_iaload dMod_isFound_114 (by decide) rfl (show _ < 4 by omega) (by decide) ?_
      rw [N26 32 i (by decide), w1 i hi]
      refine mj_istore (L' := [_, _, _, _, _, _, _, _, _]) dMod_isFound_115 (by decide) rfl ?_
      refine mj_iload_n dMod_isFound_117 rfl ?_
      refine mj_aload_n dMod_isFound_118 rfl ?_
      refine mj_get dMod_isFound_119 fg_Mod_44 rfl ?_
      refine mj_iload dMod_isFound_122 rfl ?_
      refine mj_iaload dMod_isFound_124 (by decide) rfl (show _ < 8 by omega) (by decide) ?_
      rw [N26 12 _ (by decide), hsp]
      refine mj_iadd dMod_isFound_125 ?_
      refine mj_iconst (v := nI 4) dMod_isFound_126 (by decide) ?_
      rw [nI_add]
      have inner : ∀ (k2 k : Nat) (μ2 : xMu), k + k2 = (esg es (wd.getD i 0)).length → (ews es (wd.take i)).length + (esg es (wd.getD i 0)).length ≤ 4 → Qf μ μ2 → (∀ a b : Nat, ¬ a = 26 → μ2 a b = μ a b) → (∀ q, q < (ews es (wd.take i) ++ (esg es (wd.getD i 0)).take k).length → μ2 26 q = nI ((ews es (wd.take i) ++ (esg es (wd.getD i 0)).take k).getD q 0)) → Mj (l, G, d + 8, m, fun o μ' => o = rI (bI (fdB V es u wd)) ∧ Fo μ' ks ∧ (fdB V es u wd = true → Fk μ' ks.length (ak es wd)) ∧ Qf μ μ') mMod_isFound 139 [some (.ref m), some (.int (nI wd.length)), some (.int (bI true)), some (.int (nI ((ews es (wd.take i) ++ (esg es (wd.getD i 0)).take k).length))), some (.int (nI (val8 (ews es (wd.take i) ++ (esg es (wd.getD i 0)).take k)))), some (.int (nI (val8 (wd.take i)))), some (.int (nI (i))), some (.int (nI (wd.getD i 0))), some (.int (nI (k)))] [] μ2 := by
        intro k2
        induction k2 with
        | zero =>
          intro k μ2 hk hfit QF2 N2 hq2
          have ek : (esg es (wd.getD i 0)).take k = esg es (wd.getD i 0) := List.take_of_length_le (by omega)
          rw [ek, ← hsn] at hq2
          rw [ek, ← hsn]
          refine mj_iload dMod_isFound_139 rfl ?_
          refine mj_aload_n dMod_isFound_141 rfl ?_
          refine mj_get dMod_isFound_142 fg_Mod_44 rfl ?_
          refine mj_iload dMod_isFound_145 rfl ?_
          refine mj_iaload dMod_isFound_147 (by decide) rfl (show _ < 8 by omega) (by decide) ?_
          rw [N2 12 _ (by decide), hsp]
          refine mj_icmp_ge (tgt := 196) dMod_isFound_148 (by decide) (fun hc4 => ?_) (fun hc4 => ?_)
          · refine mj_bipush (v := nI 8) dMod_isFound_196 (by decide) ?_
            refine mj_iload dMod_isFound_198 rfl ?_
            refine mj_imul dMod_isFound_200 ?_
            refine mj_iload dMod_isFound_201 rfl ?_
            rw [pk_mul]
            refine mj_iadd dMod_isFound_203 ?_
            rw [nI_add, ← hvn]
            refine mj_istore (L' := [_, _, _, _, _, _, _, _, _]) dMod_isFound_204 (by decide) rfl ?_
            refine mj_iinc (L' := [_, _, _, _, _, _, _, _, _]) dMod_isFound_206 rfl rfl (by decide) rfl ?_
            refine mj_goto (tgt := 98) dMod_isFound_209 (by decide) ?_
            rw [show nI i + Int32.ofInt 1 = nI (i + 1) from nI_1 i]
            exact ih (i + 1) μ2 _ _ (by omega) hch QF2 N2 (by rw [hsn, List.length_append]; exact hfit) hq2
          · exact absurd (nI_le (by omega) (by omega)) hc4
        | succ k2 ihk =>
          intro k μ2 hk hfit QF2 N2 hq2
          have hkl : k < (esg es (wd.getD i 0)).length := by omega
          have hsk : ews es (wd.take i) ++ (esg es (wd.getD i 0)).take (k + 1) = (ews es (wd.take i) ++ (esg es (wd.getD i 0)).take k) ++ [(esg es (wd.getD i 0)).getD k 0] := by rw [take_snoc 0 hkl, List.append_assoc]
          have hlk : (ews es (wd.take i) ++ (esg es (wd.getD i 0)).take k).length = (ews es (wd.take i)).length + k := by rw [List.length_append, List.length_take]; omega
          refine mj_iload dMod_isFound_139 rfl ?_
          refine mj_aload_n dMod_isFound_141 rfl ?_
          refine mj_get dMod_isFound_142 fg_Mod_44 rfl ?_
          refine mj_iload dMod_isFound_145 rfl ?_
          refine mj_iaload dMod_isFound_147 (by decide) rfl (show _ < 8 by omega) (by decide) ?_
          rw [N2 12 _ (by decide), hsp]
          refine mj_icmp_ge (tgt := 196) dMod_isFound_148 (by decide) (fun hc4 => ?_) (fun hc4 => ?_)
          · exact absurd hc4 (nI_ge (by omega) (by omega))
          refine mj_iload_n dMod_isFound_151 rfl ?_
          refine mj_if_eq (tgt := 196) dMod_isFound_152 (by decide) (fun hc5 => ?_) (fun hc5 => ?_)
          · exact absurd hc5 (by decide)
          refine mj_aload_n dMod_isFound_155 rfl ?_
          refine mj_get dMod_isFound_156 fg_Mod_86 rfl ?_
          refine mj_iload_n dMod_isFound_159 rfl ?_
          refine mj_aload_n dMod_isFound_160 rfl ?_
          refine mj_get dMod_isFound_161 fg_Mod_47 rfl ?_
          refine mj_iconst (v := nI 3) dMod_isFound_164 (by decide) ?_
          refine mj_iload dMod_isFound_165 rfl ?_
          refine mj_imul dMod_isFound_167 ?_
          refine mj_iload dMod_isFound_168 rfl ?_
          refine mj_iadd dMod_isFound_170 ?_
          rw [show nI 3 * nI (wd.getD i 0) = nI (3 * wd.getD i 0) from pk_mul _ _, nI_add]
          refine mj_iaload dMod_isFound_171 (by decide) rfl (show _ < 24 by omega) (by decide) ?_
          rw [N2 13 _ (by decide), e5 _ (by omega) k hkl]
          refine mj_iastore dMod_isFound_172 (by decide) rfl (show _ < 4 by omega) (by decide) ?_
          refine mj_bipush (v := nI 8) dMod_isFound_173 (by decide) ?_
          refine mj_iload dMod_isFound_175 rfl ?_
          refine mj_imul dMod_isFound_177 ?_
          refine mj_aload_n dMod_isFound_178 rfl ?_
          refine mj_get dMod_isFound_179 fg_Mod_86 rfl ?_
          refine mj_iload_n dMod_isFound_182 rfl ?_
          refine mj_iaload dMod_isFound_183 (by decide) rfl (show _ < 4 by omega) (by decide) ?_
          rw [mup_s, pk_mul]
          refine mj_iadd dMod_isFound_184 ?_
          rw [nI_add]
          refine mj_istore (L' := [_, _, _, _, _, _, _, _, _]) dMod_isFound_185 (by decide) rfl ?_
          refine mj_iinc (L' := [_, _, _, _, _, _, _, _, _]) dMod_isFound_187 rfl rfl (by decide) rfl ?_
          refine mj_iinc (L' := [_, _, _, _, _, _, _, _, _]) dMod_isFound_190 rfl rfl (by decide) rfl ?_
          refine mj_goto (tgt := 139) dMod_isFound_193 (by decide) ?_
          rw [show nI (ews es (wd.take i) ++ (esg es (wd.getD i 0)).take k).length + Int32.ofInt 1 = nI ((ews es (wd.take i) ++ (esg es (wd.getD i 0)).take k).length + 1) from nI_1 _, show nI k + Int32.ofInt 1 = nI (k + 1) from nI_1 k]
          have T := ihk (k + 1) (mup μ2 26 (ews es (wd.take i) ++ (esg es (wd.getD i 0)).take k).length (nI ((esg es (wd.getD i 0)).getD k 0))) (by omega) hfit (QF2.up (by omega)) (fun a b h => by rw [mup_k _ _ h]; exact N2 a b h) (fun q hq9 => by
            rw [hsk] at hq9 ⊢
            by_cases e : q = (ews es (wd.take i) ++ (esg es (wd.getD i 0)).take k).length
            · rw [e, mup_s, getD_snoc]
            · rw [mup_j _ _ e, getD_snoc' e]; exact hq2 q (by rw [List.length_append (bs := [_]), List.length_singleton] at hq9; omega))
          rw [hsk, List.length_append (bs := [_]), List.length_singleton, val8_snoc] at T
          exact T
      refine mj_icmp_gt (tgt := 134) dMod_isFound_127 (by decide) (fun hc3 => ?_) (fun hc3 => ?_)
      · rw [nI_ltI (by omega) (by omega)] at hc3
        have hbig : ¬ (ews es wd).length ≤ 4 := fun z => by
          have hsub : (ews es (wd.take (i + 1))).length ≤ (ews es wd).length := by
            have : ews es wd = ews es (wd.take (i + 1)) ++ ews es (wd.drop (i + 1)) := by
              unfold ews; rw [← List.flatMap_append, List.take_append_drop]
            rw [this, List.length_append]; omega
          rw [hsn, List.length_append] at hsub
          omega
        have hno : fdB V es u wd = false := by unfold fdB; rw [show decide ((ews es wd).length ≤ 4) = false from by simpa using hbig]; simp
        refine mj_iconst (v := nI 0) dMod_isFound_134 (by decide) ?_
        refine mj_istore_n (L' := [_, _, _, _, _, _, _, _, _]) dMod_isFound_135 (by decide) rfl ?_
        refine mj_iconst (v := nI 0) dMod_isFound_136 (by decide) ?_
        refine mj_istore (L' := [_, _, _, _, _, _, _, _, _]) dMod_isFound_137 (by decide) rfl ?_
        refine mj_iload dMod_isFound_139 rfl ?_
        refine mj_aload_n dMod_isFound_141 rfl ?_
        refine mj_get dMod_isFound_142 fg_Mod_44 rfl ?_
        refine mj_iload dMod_isFound_145 rfl ?_
        refine mj_iaload dMod_isFound_147 (by decide) rfl (show _ < 8 by omega) (by decide) ?_
        rw [N26 12 _ (by decide), hsp]
        have t196 : ∀ x8, Mj (l, G, d + 8, m, fun o μ' => o = rI (bI (fdB V es u wd)) ∧ Fo μ' ks ∧ (fdB V es u wd = true → Fk μ' ks.length (ak es wd)) ∧ Qf μ μ') mMod_isFound 196 [some (.ref m), some (.int (nI wd.length)), some (.int (bI false)), some (.int (nI ((ews es (wd.take i)).length))), some (.int (nI (val8 (ews es (wd.take i))))), some (.int (nI (val8 (wd.take i)))), some (.int (nI (i))), some (.int (nI (wd.getD i 0))), x8] [] μ1 := by
          intro x8
          refine mj_bipush (v := nI 8) dMod_isFound_196 (by decide) ?_
          refine mj_iload dMod_isFound_198 rfl ?_
          refine mj_imul dMod_isFound_200 ?_
          refine mj_iload dMod_isFound_201 rfl ?_
          rw [pk_mul]
          refine mj_iadd dMod_isFound_203 ?_
          rw [nI_add]
          refine mj_istore (L' := [_, _, _, _, _, _, _, _, _]) dMod_isFound_204 (by decide) rfl ?_
          refine mj_iinc (L' := [_, _, _, _, _, _, _, _, _]) dMod_isFound_206 rfl rfl (by decide) rfl ?_
          refine mj_goto (tgt := 98) dMod_isFound_209 (by decide) ?_
          rw [show nI i + Int32.ofInt 1 = nI (i + 1) from nI_1 i]
          refine mj_iload dMod_isFound_98 rfl ?_
          refine mj_iload_n dMod_isFound_100 rfl ?_
          refine mj_icmp_ge (tgt := 212) dMod_isFound_101 (by decide) (fun hc6 => ?_) (fun hc6 => ?_)
          · exact t212 μ1 false _ _ _ _ _ _ QF N26 hl (fun z => by cases z) (fun _ => hno)
          refine mj_iload_n dMod_isFound_104 rfl ?_
          refine mj_if_eq (tgt := 212) dMod_isFound_105 (by decide) (fun hc7 => ?_) (fun hc7 => ?_)
          · exact t212 μ1 false _ _ _ _ _ _ QF N26 hl (fun z => by cases z) (fun _ => hno)
          · exact absurd rfl hc7
        refine mj_icmp_ge (tgt := 196) dMod_isFound_148 (by decide) (fun hc4 => ?_) (fun hc4 => ?_)
        · exact t196 _
        refine mj_iload_n dMod_isFound_151 rfl ?_
        refine mj_if_eq (tgt := 196) dMod_isFound_152 (by decide) (fun hc5 => ?_) (fun hc5 => ?_)
        · exact t196 _
        · exact absurd rfl hc5
      rw [nI_ltI (by omega) (by omega)] at hc3
      refine mj_iconst (v := nI 1) dMod_isFound_130 (by decide) ?_
      refine mj_goto (tgt := 135) dMod_isFound_131 (by decide) ?_
      refine mj_istore_n (L' := [_, _, _, _, _, _, _, _, _]) dMod_isFound_135 (by decide) rfl ?_
      refine mj_iconst (v := nI 0) dMod_isFound_136 (by decide) ?_
      refine mj_istore (L' := [_, _, _, _, _, _, _, _, _]) dMod_isFound_137 (by decide) rfl ?_
      have T := inner (esg es (wd.getD i 0)).length 0 μ1 (by omega) (by omega) QF N26 (fun q hq9 => by rw [List.take_zero, List.append_nil] at hq9 ⊢; exact hq q hq9)
      rw [List.take_zero, List.append_nil] at T
      exact T
  have t87 : ∀ (is : Bool) x3 x4 x5 x6 x7 x8, is = chB es wd → Mj (l, G, d + 8, m, fun o μ' => o = rI (bI (fdB V es u wd)) ∧ Fo μ' ks ∧ (fdB V es u wd = true → Fk μ' ks.length (ak es wd)) ∧ Qf μ μ') mMod_isFound 87 [some (.ref m), some (.int (nI wd.length)), some (.int (bI is)), x3, x4, x5, x6, x7, x8] [] μ := by
    intro is x3 x4 x5 x6 x7 x8 his
    refine mj_iconst (v := nI 0) dMod_isFound_87 (by decide) ?_
    refine mj_istore_n (L' := [_, _, _, _, _, _, _, _, _]) dMod_isFound_88 (by decide) rfl ?_
    refine mj_iconst (v := nI 0) dMod_isFound_89 (by decide) ?_
    refine mj_istore (L' := [_, _, _, _, _, _, _, _, _]) dMod_isFound_90 (by decide) rfl ?_
    refine mj_iconst (v := nI 0) dMod_isFound_92 (by decide) ?_
    refine mj_istore (L' := [_, _, _, _, _, _, _, _, _]) dMod_isFound_93 (by decide) rfl ?_
    refine mj_iconst (v := nI 0) dMod_isFound_95 (by decide) ?_
    refine mj_istore (L' := [_, _, _, _, _, _, _, _, _]) dMod_isFound_96 (by decide) rfl ?_
    cases is with
    | true => exact sizes wd.length 0 μ _ _ (by omega) his.symm Qf.rf (fun _ _ _ => rfl) (by simp [ews]) (fun q hq => by simp [ews] at hq)
    | false =>
      have hno : fdB V es u wd = false := by unfold fdB; rw [← his]; rfl
      refine mj_iload dMod_isFound_98 rfl ?_
      refine mj_iload_n dMod_isFound_100 rfl ?_
      refine mj_icmp_ge (tgt := 212) dMod_isFound_101 (by decide) (fun hc => ?_) (fun hc => ?_)
      · exact absurd hc (nI_ge (by omega) (by omega))
      refine mj_iload_n dMod_isFound_104 rfl ?_
      refine mj_if_eq (tgt := 212) dMod_isFound_105 (by decide) (fun hc2 => ?_) (fun hc2 => ?_)
      · exact t212 μ false 0 0 0 _ _ _ Qf.rf (fun _ _ _ => rfl) (by omega) (fun z => by cases z) (fun _ => hno)
      · exact absurd rfl hc2
  have chain : ∀ (j i : Nat) (acc : Bool) x4 x5 x6 x7 x8, i + j = wd.length → 1 ≤ i → (acc && (List.range' i j).all (fun i => decide ((es.getD (wd.getD (i - 1) 0) en0).2.1 = some (es.getD (wd.getD i 0) en0).1))) = chB es wd → Mj (l, G, d + 8, m, fun o μ' => o = rI (bI (fdB V es u wd)) ∧ Fo μ' ks ∧ (fdB V es u wd = true → Fk μ' ks.length (ak es wd)) ∧ Qf μ μ') mMod_isFound 39 [some (.ref m), some (.int (nI wd.length)), some (.int (bI acc)), some (.int (nI (i))), x4, x5, x6, x7, x8] [] μ := by
    intro j
    induction j with
    | zero =>
      intro i acc x4 x5 x6 x7 x8 hij hi1 hr
      refine mj_iload_n dMod_isFound_39 rfl ?_
      refine mj_iload_n dMod_isFound_40 rfl ?_
      refine mj_icmp_ge (tgt := 87) dMod_isFound_41 (by decide) (fun hc => ?_) (fun hc => ?_)
      · exact t87 acc _ _ _ _ _ _ (by rw [← hr]; simp)
      · exact absurd (nI_le (by omega) (by omega)) hc
    | succ j ih =>
      intro i acc x4 x5 x6 x7 x8 hij hi1 hr
      rw [List.range'_succ, List.all_cons, ← Bool.and_assoc] at hr
      have next : ∀ z : Bool, z = (acc && decide ((es.getD (wd.getD (i - 1) 0) en0).2.1 = some (es.getD (wd.getD i 0) en0).1)) → Mj (l, G, d + 8, m, fun o μ' => o = rI (bI (fdB V es u wd)) ∧ Fo μ' ks ∧ (fdB V es u wd = true → Fk μ' ks.length (ak es wd)) ∧ Qf μ μ') mMod_isFound 80 [some (.ref m), some (.int (nI wd.length)), some (.int (bI acc)), some (.int (nI (i))), x4, x5, x6, x7, x8] [.int (bI z)] μ := by
        intro z hz
        refine mj_istore_n (L' := [_, _, _, _, _, _, _, _, _]) dMod_isFound_80 (by decide) rfl ?_
        refine mj_iinc (L' := [_, _, _, _, _, _, _, _, _]) dMod_isFound_81 rfl rfl (by decide) rfl ?_
        refine mj_goto (tgt := 39) dMod_isFound_84 (by decide) ?_
        rw [show nI i + Int32.ofInt 1 = nI (i + 1) from nI_1 i]
        exact ih (i + 1) z _ _ _ _ _ (by omega) (by omega) (by rw [hz]; exact hr)
      refine mj_iload_n dMod_isFound_39 rfl ?_
      refine mj_iload_n dMod_isFound_40 rfl ?_
      refine mj_icmp_ge (tgt := 87) dMod_isFound_41 (by decide) (fun hc => ?_) (fun hc => ?_)
      · exact absurd hc (nI_ge (by omega) (by omega))
      refine mj_iload_n dMod_isFound_44 rfl ?_
      refine mj_if_eq (tgt := 79) dMod_isFound_45 (by decide) (fun hc2 => ?_) (fun hc2 => ?_)
      · refine mj_iconst (v := nI 0) dMod_isFound_79 (by decide) ?_
        exact next false (by rw [bI_0.mp hc2]; rfl)
      refine mj_aload_n dMod_isFound_48 rfl ?_
      refine mj_get dMod_isFound_49 fg_Mod_41 rfl ?_
      refine mj_aload_n dMod_isFound_52 rfl ?_
      refine mj_get dMod_isFound_53 fg_Mod_104 rfl ?_
      refine mj_iload_n dMod_isFound_56 rfl ?_
      refine mj_iconst (v := nI 1) dMod_isFound_57 (by decide) ?_
      refine mj_isub dMod_isFound_58 ?_
      rw [show nI i - nI 1 = nI (i - 1) from pk_sub (by omega)]
      refine mj_iaload dMod_isFound_59 (by decide) rfl (show _ < 4 by omega) (by decide) ?_
      rw [w1 (i - 1) (by omega)]
      have hm1 := hwd (i - 1) (by omega)
      have hm2 := hwd i (by omega)
      refine mj_iaload dMod_isFound_60 (by decide) rfl (show _ < 8 by omega) (by decide) ?_
      rw [(e3 _ hm1).2]
      refine mj_aload_n dMod_isFound_61 rfl ?_
      refine mj_get dMod_isFound_62 fg_Mod_38 rfl ?_
      refine mj_aload_n dMod_isFound_65 rfl ?_
      refine mj_get dMod_isFound_66 fg_Mod_104 rfl ?_
      refine mj_iload_n dMod_isFound_69 rfl ?_
      refine mj_iaload dMod_isFound_70 (by decide) rfl (show _ < 4 by omega) (by decide) ?_
      rw [w1 i (by omega)]
      refine mj_iaload dMod_isFound_71 (by decide) rfl (show _ < 8 by omega) (by decide) ?_
      rw [(e3 _ hm2).1]
      refine mj_icmp_ne (tgt := 79) dMod_isFound_72 (by decide) (fun hc3 => ?_) (fun hc3 => ?_)
      · refine mj_iconst (v := nI 0) dMod_isFound_79 (by decide) ?_
        exact next false (by rw [show decide ((es.getD (wd.getD (i - 1) 0) en0).2.1 = some (es.getD (wd.getD i 0) en0).1) = false from decide_eq_false (fun z => hc3 ((eN_eq (hb4 i (by omega)).1 (hb4 (i - 1) (by omega)).2).mpr z)), Bool.and_false])
      refine mj_iconst (v := nI 1) dMod_isFound_75 (by decide) ?_
      refine mj_goto (tgt := 80) dMod_isFound_76 (by decide) ?_
      exact next true (by rw [bI_1 hc2, show decide ((es.getD (wd.getD (i - 1) 0) en0).2.1 = some (es.getD (wd.getD i 0) en0).1) = true from decide_eq_true ((eN_eq (hb4 i (by omega)).1 (hb4 (i - 1) (by omega)).2).mp hc3)]; rfl)
  have t36 : ∀ z : Bool, z = (decide ((es.getD (wd.getD 0 0) en0).1 = 0) && decide ((es.getD (wd.getD (wd.length - 1) 0) en0).2.1 = none)) → Mj (l, G, d + 8, m, fun o μ' => o = rI (bI (fdB V es u wd)) ∧ Fo μ' ks ∧ (fdB V es u wd = true → Fk μ' ks.length (ak es wd)) ∧ Qf μ μ') mMod_isFound 36 [some (.ref m), some (.int (nI wd.length)), none, none, none, none, none, none, none] [.int (bI z)] μ := by
    intro z hz
    refine mj_istore_n (L' := [_, _, _, _, _, _, _, _, _]) dMod_isFound_36 (by decide) rfl ?_
    refine mj_iconst (v := nI 1) dMod_isFound_37 (by decide) ?_
    refine mj_istore_n (L' := [_, _, _, _, _, _, _, _, _]) dMod_isFound_38 (by decide) rfl ?_
    exact chain (wd.length - 1) 1 z _ _ _ _ _ (by omega) (Nat.le_refl _) (by rw [hz]; rfl)
  refine mc_of (L := [_, _, _, _, _, _, _, _, _]) (by decide) (Nat.le_of_ble_eq_true rfl) rfl ?_
  refine mj_aload_n dMod_isFound_0 rfl ?_
  refine mj_get dMod_isFound_1 fg_Mod_38 rfl ?_
  refine mj_aload_n dMod_isFound_4 rfl ?_
  refine mj_get dMod_isFound_5 fg_Mod_104 rfl ?_
  refine mj_iconst (v := nI 0) dMod_isFound_8 (by decide) ?_
  refine mj_iaload dMod_isFound_9 (by decide) rfl (show _ < 4 by omega) (by decide) ?_
  rw [w1 0 (by omega)]
  have hm0 := hwd 0 (by omega)
  refine mj_iaload dMod_isFound_10 (by decide) rfl (show _ < 8 by omega) (by decide) ?_
  rw [(e3 _ hm0).1]
  refine mj_if_ne (tgt := 35) dMod_isFound_11 (by decide) (fun hc => ?_) (fun hc => ?_)
  · refine mj_iconst (v := nI 0) dMod_isFound_35 (by decide) ?_
    exact t36 false (by rw [show decide ((es.getD (wd.getD 0 0) en0).1 = 0) = false from decide_eq_false (fun z => hc (by rw [z]; rfl))]; rfl)
  have q0 : (es.getD (wd.getD 0 0) en0).1 = 0 := (nI_eq (b := 0) (by have := (hb4 0 (by omega)).1; omega) (by omega)).mp hc
  refine mj_aload_n dMod_isFound_14 rfl ?_
  refine mj_get dMod_isFound_15 fg_Mod_41 rfl ?_
  refine mj_aload_n dMod_isFound_18 rfl ?_
  refine mj_get dMod_isFound_19 fg_Mod_104 rfl ?_
  refine mj_iload_n dMod_isFound_22 rfl ?_
  refine mj_iconst (v := nI 1) dMod_isFound_23 (by decide) ?_
  refine mj_isub dMod_isFound_24 ?_
  rw [show nI wd.length - nI 1 = nI (wd.length - 1) from pk_sub (by omega)]
  refine mj_iaload dMod_isFound_25 (by decide) rfl (show _ < 4 by omega) (by decide) ?_
  rw [w1 (wd.length - 1) (by omega)]
  have hml := hwd (wd.length - 1) (by omega)
  refine mj_iaload dMod_isFound_26 (by decide) rfl (show _ < 8 by omega) (by decide) ?_
  refine mj_iconst (v := -1) dMod_isFound_27 (by decide) ?_
  rw [(e3 _ hml).2]
  refine mj_icmp_ne (tgt := 35) dMod_isFound_28 (by decide) (fun hc2 => ?_) (fun hc2 => ?_)
  · refine mj_iconst (v := nI 0) dMod_isFound_35 (by decide) ?_
    exact t36 false (by rw [show decide ((es.getD (wd.getD (wd.length - 1) 0) en0).2.1 = none) = false from decide_eq_false (fun z => hc2 ((eN_none (hb4 _ (by omega)).2).mpr z)), Bool.and_false])
  refine mj_iconst (v := nI 1) dMod_isFound_31 (by decide) ?_
  refine mj_goto (tgt := 36) dMod_isFound_32 (by decide) ?_
  exact t36 true (by rw [show decide ((es.getD (wd.getD 0 0) en0).1 = 0) = true from decide_eq_true q0, show decide ((es.getD (wd.getD (wd.length - 1) 0) en0).2.1 = none) = true from decide_eq_true ((eN_none (hb4 _ (by omega)).2).mp hc2)]; rfl)
end MANA
