/-! The reference's alignments: begin, mayCome, nextAlignment. -/
def wv (V : xV) : xW := (V.1, V.2.1, V.2.2.1, xp0, xp0)
def lowc (V : xV) (row : List Nat) : Nat := (row.filter (fun p => lowp (wv V) p != 0)).length
def upc (V : xV) (row : List Nat) : Nat := (row.filter (fun p => upp (wv V) p != 0)).length
theorem lowc_snoc (V : xV) (row : List Nat) (p : Nat) : lowc V (row ++ [p]) = if lowp (wv V) p = 0 then lowc V row else lowc V row + 1 := by
  unfold lowc
  rw [List.filter_append, List.length_append]
  by_cases q : lowp (wv V) p = 0
  · rw [if_pos q]; simp [q]
  · rw [if_neg q]; simp [q]
theorem upc_snoc (V : xV) (row : List Nat) (p : Nat) : upc V (row ++ [p]) = if upp (wv V) p = 0 then upc V row else upc V row + 1 := by
  unfold upc
  rw [List.filter_append, List.length_append]
  by_cases q : upp (wv V) p = 0
  · rw [if_pos q]; simp [q]
  · rw [if_neg q]; simp [q]
theorem lowc_le (V : xV) (row : List Nat) : lowc V row ≤ row.length := List.length_filter_le _ _
theorem upc_le (V : xV) (row : List Nat) : upc V row ≤ row.length := List.length_filter_le _ _
def tkG (gv : Bool) (u : List Nat) (i z : Nat) : Bool := if gv then tkC u i z else tkW i z
def meG (gv : Bool) (u : List Nat) (n : Nat) : Bool := if gv then meC u n else meW n
def okR (V : xV) (w u : List Nat) (gv : Bool) (row : List Nat) (p : Nat) : Bool := fitL (wv V) w row (lowc V row) p && fitU (tkG gv u) (wv V) (upc V row) p
def fullR (V : xV) (w u : List Nat) (gv : Bool) (row : List Nat) : Bool := lowc V row == w.length && meG gv u (upc V row)
def post (V : xV) (w u : List Nat) (gv : Bool) : Nat → List Nat → List (List Nat)
  | 0, _ => []
  | f + 1, row => (List.range' 0 V.1.length).flatMap (fun p => if okR V w u gv row p then post V w u gv f (row ++ [p]) else []) ++ (if fullR V w u gv row then [row] else [])
def cst (V : xV) (w u : List Nat) (gv : Bool) : Nat → List Nat → Nat
  | 0, _ => 0
  | f + 1, row => ((List.range' 0 V.1.length).map (fun p => 1 + if okR V w u gv row p then cst V w u gv f (row ++ [p]) else 0)).sum + 2
def kids (V : xV) (w u : List Nat) (gv : Bool) (f : Nat) (row : List Nat) (t : Nat) : List (List Nat) := (List.range' t (V.1.length - t)).flatMap (fun p => if okR V w u gv row p then post V w u gv f (row ++ [p]) else [])
def kcst (V : xV) (w u : List Nat) (gv : Bool) (f : Nat) (row : List Nat) (t : Nat) : Nat := ((List.range' t (V.1.length - t)).map (fun p => 1 + if okR V w u gv row p then cst V w u gv f (row ++ [p]) else 0)).sum
def self9 (V : xV) (w u : List Nat) (gv : Bool) (row : List Nat) (t : Nat) : List (List Nat) := if t ≤ V.1.length ∧ fullR V w u gv row = true then [row] else []
def restR (V : xV) (w u : List Nat) (gv : Bool) : List Nat → Nat → List (List Nat)
  | [], t => kids V w u gv 9 [] t ++ self9 V w u gv [] t
  | q :: rv, t => kids V w u gv (8 - rv.length) (q :: rv).reverse t ++ self9 V w u gv (q :: rv).reverse t ++ restR V w u gv rv (q + 1)
def costR (V : xV) (w u : List Nat) (gv : Bool) : List Nat → Nat → Nat
  | [], t => kcst V w u gv 9 [] t + (if t ≤ V.1.length then 2 else 1)
  | q :: rv, t => kcst V w u gv (8 - rv.length) (q :: rv).reverse t + (if t ≤ V.1.length then 2 else 1) + costR V w u gv rv (q + 1)
/-- rows that the search can reach -/
def Vd (V : xV) (w row : List Nat) : Prop := lowc V row ≤ w.length ∧ row.length ≤ 2 * lowc V row + 1 ∧ (row.length = 0 ∨ lowp (wv V) (row.getD (row.length - 1) 0) ≠ 0 → row.length ≤ 2 * lowc V row)
theorem Vd.push {V : xV} {w u row : List Nat} {gv : Bool} {p : Nat} (H : Vd V w row) (h : okR V w u gv row p = true) : Vd V w (row ++ [p]) := by
  obtain ⟨h1, h2, h3⟩ := H
  have hf : fitL (wv V) w row (lowc V row) p = true := by
    unfold okR at h; rw [Bool.and_eq_true] at h; exact h.1
  unfold fitL at hf
  have hlast : (row ++ [p]).getD ((row ++ [p]).length - 1) 0 = p := by rw [List.length_append]; exact getD_snoc
  unfold Vd
  rw [lowc_snoc, hlast, List.length_append]
  by_cases q : lowp (wv V) p = 0
  · rw [if_pos q] at hf ⊢
    rw [Bool.or_eq_true, beq_iff_eq, bne_iff_ne] at hf
    have := h3 hf
    refine ⟨h1, by simp; omega, fun z => ?_⟩
    rcases z with z | z
    · simp at z
    · exact absurd q z
  · rw [if_neg q] at hf ⊢
    rw [beq_iff_eq] at hf
    have hlt : lowc V row < w.length := by
      rcases Nat.lt_or_ge (lowc V row) w.length with z | z
      · exact z
      · rw [getD_len z] at hf; exact absurd hf.symm q
    exact ⟨by omega, by simp; omega, fun _ => by simp; omega⟩
theorem Vd.len {V : xV} {w row : List Nat} (H : Vd V w row) (hw : w.length ≤ 4) : row.length ≤ 9 := by
  obtain ⟨h1, h2, h3⟩ := H
  omega
theorem Vd.pop {V : xV} {w row : List Nat} {q : Nat} (hl : row.length ≤ 8) (H : Vd V w (row ++ [q])) (h0 : Vd V w row) : Vd V w row := h0
/-- the memory holds a row, and how many signs its beginnings use -/
def Sr (μ : xMu) (V : xV) (row : List Nat) : Prop := μ 0 36 = nI row.length ∧ (∀ i, i < row.length → μ 28 i = nI (row.getD i 0)) ∧ (∀ i, i ≤ row.length → μ 30 i = nI (lowc V (row.take i)) ∧ μ 31 i = nI (upc V (row.take i))) ∧ ∀ p ∈ row, p < V.1.length
def Sk (μ : xMu) (V : xV) (row : List Nat) (t : Nat) : Prop := Sr μ V row ∧ (∀ i, i < row.length → μ 29 i = nI (row.getD i 0 + 1)) ∧ μ 29 row.length = nI t ∧ t ≤ V.1.length + 1
def Rw (μ : xMu) (w u : List Nat) : Prop := μ 0 32 = nI w.length ∧ μ 0 34 = nI u.length ∧ (∀ i, i < w.length → μ 26 i = nI (w.getD i 0)) ∧ (∀ i, i < u.length → μ 27 i = nI (u.getD i 0)) ∧ w.length ≤ 4 ∧ u.length ≤ 5 ∧ (∀ i, w.getD i 0 < 8) ∧ ∀ i, u.getD i 0 < 8
def Ss (μ μ' : xMu) : Prop := ∀ a b : Nat, ¬ ((a = 0 ∧ b = 36) ∨ (28 ≤ a ∧ a ≤ 31)) → μ' a b = μ a b
theorem Ss.rf {μ : xMu} : Ss μ μ := fun _ _ _ => rfl
theorem Ss.trans {μ μ1 μ2 : xMu} (a : Ss μ μ1) (b : Ss μ1 μ2) : Ss μ μ2 := fun x y h => (b x y h).trans (a x y h)
theorem Ss.up {μ μ1 : xMu} {k j : Nat} {v : Int32} (a : Ss μ μ1) (h : (k = 0 ∧ j = 36) ∨ (28 ≤ k ∧ k ≤ 31)) : Ss μ (mup μ1 k j v) := fun x y hn => by
  rw [mup_ne _ _ (by
    by_cases e : x = k
    · by_cases e2 : y = j
      · exact absurd (by rw [e, e2]; exact h) hn
      · exact Or.inr e2
    · exact Or.inl e)]
  exact a x y hn
theorem Rv.eq {μ μ' : xMu} {V : xV} (H : Rv μ V) (e : ∀ a b : Nat, (a = 0 ∧ (b = 1 ∨ b = 4)) ∨ (1 ≤ a ∧ a ≤ 9) → μ' a b = μ a b) : Rv μ' V := by
  obtain ⟨v1, v2, v3, v4, v5, v6, v7, v8⟩ := H
  refine ⟨(e _ _ (by omega)).trans v1, (e _ _ (by omega)).trans v2, fun j hj => ?_, fun j hj => ?_, fun j hj => ?_, fun j hj => ?_, fun j hj => ?_, v8⟩
  · rw [e _ _ (by omega), e _ _ (by omega)]; exact v3 j hj
  · rw [e _ _ (by omega), e _ _ (by omega)]; exact v4 j hj
  · rw [e _ _ (by omega)]; exact v5 j hj
  · rw [e _ _ (by omega), e _ _ (by omega)]; exact v6 j hj
  · rw [e _ _ (by omega), e _ _ (by omega)]; exact v7 j hj
theorem Rv.ss {μ μ' : xMu} {V : xV} (H : Rv μ V) (e : Ss μ μ') : Rv μ' V := H.eq (fun a b h => e a b (by omega))
theorem Rw.ss {μ μ' : xMu} {w u : List Nat} (H : Rw μ w u) (e : Ss μ μ') : Rw μ' w u := by
  obtain ⟨v1, v2, v3, v4, v5⟩ := H
  exact ⟨(e _ _ (by omega)).trans v1, (e _ _ (by omega)).trans v2, fun i hi => (e _ _ (by omega)).trans (v3 i hi), fun i hi => (e _ _ (by omega)).trans (v4 i hi), v5⟩
theorem Sr.rr {μ : xMu} {V : xV} {row : List Nat} (H : Sr μ V row) (hl : row.length ≤ 9) : Rr μ V row := ⟨H.1, H.2.1, H.2.2.2, by omega⟩
theorem Sr.tr {μ : xMu} {V : xV} {row : List Nat} {n : Nat} {v : Int32} (H : Sr μ V row) : Sr (mup μ 29 n v) V row := by
  obtain ⟨h1, h2, h3, h4⟩ := H
  exact ⟨by rw [mup_k _ _ (by decide)]; exact h1, fun i hi => by rw [mup_k _ _ (by decide)]; exact h2 i hi, fun i hi => by rw [mup_k _ _ (by decide), mup_k _ _ (by decide)]; exact h3 i hi, h4⟩
theorem Sk.tr {μ : xMu} {V : xV} {row : List Nat} {t t' : Nat} (H : Sk μ V row t) (ht : t' ≤ V.1.length + 1) : Sk (mup μ 29 row.length (nI t')) V row t' := ⟨H.1.tr, fun i hi => by rw [mup_j _ _ (by omega)]; exact H.2.1 i hi, mup_s _ _ _ _, ht⟩
theorem kids_end {V : xV} {w u : List Nat} {gv : Bool} {f : Nat} {row : List Nat} {t : Nat} (h : V.1.length ≤ t) : kids V w u gv f row t = [] := by unfold kids; rw [Nat.sub_eq_zero_of_le h]; rfl
theorem kcst_end {V : xV} {w u : List Nat} {gv : Bool} {f : Nat} {row : List Nat} {t : Nat} (h : V.1.length ≤ t) : kcst V w u gv f row t = 0 := by unfold kcst; rw [Nat.sub_eq_zero_of_le h]; rfl
theorem kids_step {V : xV} {w u : List Nat} {gv : Bool} {f : Nat} {row : List Nat} {t : Nat} (h : t < V.1.length) : kids V w u gv f row t = (if okR V w u gv row t then post V w u gv f (row ++ [t]) else []) ++ kids V w u gv f row (t + 1) := by
  unfold kids
  rw [show V.1.length - t = (V.1.length - (t + 1)) + 1 by omega, List.range'_succ, List.flatMap_cons]
theorem kcst_step {V : xV} {w u : List Nat} {gv : Bool} {f : Nat} {row : List Nat} {t : Nat} (h : t < V.1.length) : kcst V w u gv f row t = (1 + if okR V w u gv row t then cst V w u gv f (row ++ [t]) else 0) + kcst V w u gv f row (t + 1) := by
  unfold kcst
  rw [show V.1.length - t = (V.1.length - (t + 1)) + 1 by omega, List.range'_succ, List.map_cons, List.sum_cons]
/-- the list of what is still to come, by the row itself -/
def tl9 (V : xV) (w u : List Nat) (gv : Bool) : List Nat → List (List Nat)
  | [] => []
  | q :: rv => restR V w u gv rv (q + 1)
def tc9 (V : xV) (w u : List Nat) (gv : Bool) : List Nat → Nat
  | [] => 0
  | q :: rv => costR V w u gv rv (q + 1)
theorem restR_eq (V : xV) (w u : List Nat) (gv : Bool) (rv : List Nat) (t : Nat) : restR V w u gv rv t = kids V w u gv (9 - rv.length) rv.reverse t ++ self9 V w u gv rv.reverse t ++ tl9 V w u gv rv := by
  cases rv with
  | nil => simp [restR, tl9]
  | cons q rv => rw [restR, tl9, show 9 - (q :: rv).length = 8 - rv.length by rw [List.length_cons]; omega]
theorem costR_eq (V : xV) (w u : List Nat) (gv : Bool) (rv : List Nat) (t : Nat) : costR V w u gv rv t = kcst V w u gv (9 - rv.length) rv.reverse t + (if t ≤ V.1.length then 2 else 1) + tc9 V w u gv rv := by
  cases rv with
  | nil => simp [costR, tc9]
  | cons q rv => rw [costR, tc9, show 9 - (q :: rv).length = 8 - rv.length by rw [List.length_cons]; omega]
section MNEXT
variable {l : Launch} {G : xG} {d m : Nat} {μ : xMu} {V : xV} {row w u : List Nat} {gv : Bool}
theorem c_Mod_begin : Mc l G mMod_begin d m [.ref m] μ (fun o μ' => o = .inl none ∧ Ss μ μ' ∧ Sk μ' V [] 0) := by
  refine mc_of (L := [_]) (by decide) (Nat.le_of_ble_eq_true rfl) rfl ?_
  refine mj_aload_n dMod_begin_0 rfl ?_
  refine mj_iconst (v := nI 0) dMod_begin_1 (by decide) ?_
  refine mj_put dMod_begin_2 (fp_Mod_144 _) (by decide) ?_
  refine mj_aload_n dMod_begin_5 rfl ?_
  refine mj_get dMod_begin_6 fg_Mod_95 rfl ?_
  refine mj_iconst (v := nI 0) dMod_begin_9 (by decide) ?_
  refine mj_iconst (v := nI 0) dMod_begin_10 (by decide) ?_
  refine mj_iastore dMod_begin_11 (by decide) rfl (show _ < 12 by omega) (by decide) ?_
  refine mj_aload_n dMod_begin_12 rfl ?_
  refine mj_get dMod_begin_13 fg_Mod_98 rfl ?_
  refine mj_iconst (v := nI 0) dMod_begin_16 (by decide) ?_
  refine mj_iconst (v := nI 0) dMod_begin_17 (by decide) ?_
  refine mj_iastore dMod_begin_18 (by decide) rfl (show _ < 12 by omega) (by decide) ?_
  refine mj_aload_n dMod_begin_19 rfl ?_
  refine mj_get dMod_begin_20 fg_Mod_101 rfl ?_
  refine mj_iconst (v := nI 0) dMod_begin_23 (by decide) ?_
  refine mj_iconst (v := nI 0) dMod_begin_24 (by decide) ?_
  refine mj_iastore dMod_begin_25 (by decide) rfl (show _ < 12 by omega) (by decide) ?_
  refine mj_vret dMod_begin_26 rfl ⟨rfl, (((Ss.rf.up (by omega)).up (by omega)).up (by omega)).up (by omega), ⟨?_, fun i hi => absurd hi (Nat.not_lt_zero _), fun i hi => ?_, fun p hp => by simp at hp⟩, fun i hi => absurd hi (Nat.not_lt_zero _), ?_, Nat.zero_le _⟩
  · rw [mup_k _ _ (by decide), mup_k _ _ (by decide), mup_k _ _ (by decide), mup_s]; rfl
  · have e : i = 0 := by simp at hi; exact hi
    subst e
    exact ⟨by rw [mup_k _ _ (by decide), mup_s]; rfl, by rw [mup_s]; rfl⟩
  · rw [mup_k _ _ (by decide), mup_k _ _ (by decide)]; exact mup_s _ _ _ _
theorem c_Mod_mayCome {p : Nat} (hp : p < V.1.length) (hl : row.length ≤ 10) (HV : Rv μ V) (HW : Rw μ w u) (HS : Sr μ V row) : Mc l G mMod_mayCome d m [.ref m, .int (nI p), .int (bI gv)] μ (fun o μ' => o = .inl (some (.int (bI (okR V w u gv row p)))) ∧ μ' = μ) := by
  obtain ⟨v1, v2, v3, v4, v5, v6, v7, v8, v9, v10, v11, v12, v13, v14⟩ := id HV
  obtain ⟨y1, y2, y3, y4, y5, y6, y7, y8⟩ := id HW
  obtain ⟨s1, s2, s3, s4⟩ := id HS
  have hlc := lowc_le V row
  have huc := upc_le V row
  have hpb := v9 _ (getD_mem (d := (0, 0)) hp)
  have s3n := s3 row.length (Nat.le_refl _)
  rw [List.take_length] at s3n
  have t149 : ∀ x5, okR V w u gv row p = false → Mj (l, G, d, m, fun o μ' => o = .inl (some (.int (bI (okR V w u gv row p)))) ∧ μ' = μ) mMod_mayCome 149 [some (.ref m), some (.int (nI p)), some (.int (bI gv)), some (.int (nI (lowc V row))), some (.int (nI (upc V row))), x5] [] μ := by
    intro x5 q
    refine mj_iconst (v := nI 0) dMod_mayCome_149 (by decide) ?_
    exact mj_zret dMod_mayCome_150 rfl (by decide) ⟨by rw [show okR V w u gv row p = false from q]; rfl, rfl⟩
  have t145 : ∀ x5, okR V w u gv row p = true → Mj (l, G, d, m, fun o μ' => o = .inl (some (.int (bI (okR V w u gv row p)))) ∧ μ' = μ) mMod_mayCome 145 [some (.ref m), some (.int (nI p)), some (.int (bI gv)), some (.int (nI (lowc V row))), some (.int (nI (upc V row))), x5] [] μ := by
    intro x5 q
    refine mj_iconst (v := nI 1) dMod_mayCome_145 (by decide) ?_
    refine mj_goto (tgt := 150) dMod_mayCome_146 (by decide) ?_
    exact mj_zret dMod_mayCome_150 rfl (by decide) ⟨by rw [show okR V w u gv row p = true from q]; rfl, rfl⟩
  have t92 : ∀ (lo : Bool) x5, lo = fitL (wv V) w row (lowc V row) p → Mj (l, G, d, m, fun o μ' => o = .inl (some (.int (bI (okR V w u gv row p)))) ∧ μ' = μ) mMod_mayCome 92 [some (.ref m), some (.int (nI p)), some (.int (bI gv)), some (.int (nI (lowc V row))), some (.int (nI (upc V row))), x5] [.int (bI lo)] μ := by
    intro lo x5 hlo
    refine mj_istore (L' := [_, _, _, _, _, _]) dMod_mayCome_92 (by decide) rfl ?_
    refine mj_iload dMod_mayCome_94 rfl ?_
    refine mj_if_eq (tgt := 149) dMod_mayCome_96 (by decide) (fun hc => ?_) (fun hc => ?_)
    · exact t149 _ (by unfold okR; rw [← hlo, bI_0.mp hc]; rfl)
    have hlt := bI_1 hc
    have hok : okR V w u gv row p = fitU (tkG gv u) (wv V) (upc V row) p := by unfold okR; rw [← hlo, hlt]; rfl
    refine mj_aload_n dMod_mayCome_99 rfl ?_
    refine mj_get dMod_mayCome_100 fg_Mod_13 rfl ?_
    refine mj_iload_n dMod_mayCome_103 rfl ?_
    refine mj_iaload dMod_mayCome_104 (by decide) rfl (show _ < 10 by omega) (by decide) ?_
    rw [(v3 p hp).2]
    refine mj_if_eq (tgt := 145) dMod_mayCome_105 (by decide) (fun hc2 => ?_) (fun hc2 => ?_)
    · have q : upp (wv V) p = 0 := (nI_eq (b := 0) (a := upp (wv V) p) (by have : upp (wv V) p < 8 := hpb.2; omega) (by omega)).mp hc2
      exact t145 _ (by rw [hok]; unfold fitU; rw [q]; rfl)
    have q : ¬ upp (wv V) p = 0 := fun z => hc2 (by rw [show (V.1.getD p (0, 0)).2 = 0 from z]; rfl)
    have hfu : fitU (tkG gv u) (wv V) (upc V row) p = tkG gv u (upc V row) (upp (wv V) p) := by unfold fitU; rw [show (upp (wv V) p == 0) = false from by simpa using q]; rfl
    refine mj_iload dMod_mayCome_108 rfl ?_
    refine mj_iload_n dMod_mayCome_110 rfl ?_
    cases gv with
    | true =>
      refine mj_if_eq (tgt := 121) dMod_mayCome_111 (by decide) (fun hc3 => ?_) (fun hc3 => ?_)
      · exact absurd hc3 (by decide)
      refine mj_aload_n dMod_mayCome_114 rfl ?_
      refine mj_get dMod_mayCome_115 fg_Mod_156 rfl ?_
      refine mj_goto (tgt := 122) dMod_mayCome_118 (by decide) ?_
      rw [y2]
      refine mj_icmp_ge (tgt := 149) dMod_mayCome_122 (by decide) (fun hc4 => ?_) (fun hc4 => ?_)
      · rw [nI_leI (by omega) (by omega)] at hc4
        exact t149 _ (by rw [hok, hfu]; show (u.getD (upc V row) 0 == upp (wv V) p) = false; rw [getD_len hc4, beq_eq_false_iff_ne]; exact fun z => q z.symm)
      rw [nI_leI (by omega) (by omega)] at hc4
      refine mj_iload_n dMod_mayCome_125 rfl ?_
      refine mj_if_eq (tgt := 145) dMod_mayCome_126 (by decide) (fun hc5 => ?_) (fun hc5 => ?_)
      · exact absurd hc5 (by decide)
      refine mj_aload_n dMod_mayCome_129 rfl ?_
      refine mj_get dMod_mayCome_130 fg_Mod_89 rfl ?_
      refine mj_iload dMod_mayCome_133 rfl ?_
      refine mj_iaload dMod_mayCome_135 (by decide) rfl (show _ < 5 by omega) (by decide) ?_
      rw [y4 _ (by omega)]
      refine mj_aload_n dMod_mayCome_136 rfl ?_
      refine mj_get dMod_mayCome_137 fg_Mod_13 rfl ?_
      refine mj_iload_n dMod_mayCome_140 rfl ?_
      refine mj_iaload dMod_mayCome_141 (by decide) rfl (show _ < 10 by omega) (by decide) ?_
      rw [(v3 p hp).2]
      refine mj_icmp_ne (tgt := 149) dMod_mayCome_142 (by decide) (fun hc6 => ?_) (fun hc6 => ?_)
      · exact t149 _ (by rw [hok, hfu]; show (u.getD (upc V row) 0 == upp (wv V) p) = false; rw [beq_eq_false_iff_ne]; exact fun z => hc6 (by rw [z]; rfl))
      · exact t145 _ (by rw [hok, hfu]; show (u.getD (upc V row) 0 == upp (wv V) p) = true; rw [beq_iff_eq]; exact (nI_eq (b := upp (wv V) p) (by have := y8 (upc V row); omega) (by have : upp (wv V) p < 8 := hpb.2; omega)).mp hc6)
    | false =>
      refine mj_if_eq (tgt := 121) dMod_mayCome_111 (by decide) (fun hc3 => ?_) (fun hc3 => ?_)
      rotate_left
      · exact absurd rfl hc3
      refine mj_iconst (v := nI 5) dMod_mayCome_121 (by decide) ?_
      refine mj_icmp_ge (tgt := 149) dMod_mayCome_122 (by decide) (fun hc4 => ?_) (fun hc4 => ?_)
      · rw [nI_leI (by omega) (by omega)] at hc4
        exact t149 _ (by rw [hok, hfu]; show decide (upc V row < 5) = false; simpa using hc4)
      rw [nI_leI (by omega) (by omega)] at hc4
      refine mj_iload_n dMod_mayCome_125 rfl ?_
      refine mj_if_eq (tgt := 145) dMod_mayCome_126 (by decide) (fun hc5 => ?_) (fun hc5 => ?_)
      · exact t145 _ (by rw [hok, hfu]; show decide (upc V row < 5) = true; simpa using hc4)
      · exact absurd rfl hc5
  refine mc_of (L := [_, _, _, _, _, _]) (by decide) (Nat.le_of_ble_eq_true rfl) rfl ?_
  refine mj_aload_n dMod_mayCome_0 rfl ?_
  refine mj_get dMod_mayCome_1 fg_Mod_98 rfl ?_
  refine mj_aload_n dMod_mayCome_4 rfl ?_
  refine mj_get dMod_mayCome_5 fg_Mod_144 rfl ?_
  refine mj_iaload dMod_mayCome_8 (by decide) s1 (show _ < 12 by omega) (by decide) ?_
  rw [s3n.1]
  refine mj_istore_n (L' := [_, _, _, _, _, _]) dMod_mayCome_9 (by decide) rfl ?_
  refine mj_aload_n dMod_mayCome_10 rfl ?_
  refine mj_get dMod_mayCome_11 fg_Mod_101 rfl ?_
  refine mj_aload_n dMod_mayCome_14 rfl ?_
  refine mj_get dMod_mayCome_15 fg_Mod_144 rfl ?_
  refine mj_iaload dMod_mayCome_18 (by decide) s1 (show _ < 12 by omega) (by decide) ?_
  rw [s3n.2]
  refine mj_istore (L' := [_, _, _, _, _, _]) dMod_mayCome_19 (by decide) rfl ?_
  refine mj_aload_n dMod_mayCome_21 rfl ?_
  refine mj_get dMod_mayCome_22 fg_Mod_7 rfl ?_
  refine mj_iload_n dMod_mayCome_25 rfl ?_
  refine mj_iaload dMod_mayCome_26 (by decide) rfl (show _ < 10 by omega) (by decide) ?_
  rw [(v3 p hp).1]
  refine mj_if_ne (tgt := 64) dMod_mayCome_27 (by decide) (fun hc => ?_) (fun hc => ?_)
  · have q : ¬ lowp (wv V) p = 0 := fun z => hc (by rw [show (V.1.getD p (0, 0)).1 = 0 from z]; rfl)
    have hfl : fitL (wv V) w row (lowc V row) p = (w.getD (lowc V row) 0 == lowp (wv V) p) := by unfold fitL; rw [if_neg q]
    refine mj_iload_n dMod_mayCome_64 rfl ?_
    refine mj_aload_n dMod_mayCome_65 rfl ?_
    refine mj_get dMod_mayCome_66 fg_Mod_153 rfl ?_
    rw [y1]
    refine mj_icmp_ge (tgt := 91) dMod_mayCome_69 (by decide) (fun hc2 => ?_) (fun hc2 => ?_)
    · rw [nI_leI (by omega) (by omega)] at hc2
      refine mj_iconst (v := nI 0) dMod_mayCome_91 (by decide) ?_
      exact t92 false _ (by rw [hfl, getD_len hc2]; exact (beq_eq_false_iff_ne.mpr (fun z => q z.symm)).symm)
    rw [nI_leI (by omega) (by omega)] at hc2
    refine mj_aload_n dMod_mayCome_72 rfl ?_
    refine mj_get dMod_mayCome_73 fg_Mod_86 rfl ?_
    refine mj_iload_n dMod_mayCome_76 rfl ?_
    refine mj_iaload dMod_mayCome_77 (by decide) rfl (show _ < 4 by omega) (by decide) ?_
    rw [y3 _ (by omega)]
    refine mj_aload_n dMod_mayCome_78 rfl ?_
    refine mj_get dMod_mayCome_79 fg_Mod_7 rfl ?_
    refine mj_iload_n dMod_mayCome_82 rfl ?_
    refine mj_iaload dMod_mayCome_83 (by decide) rfl (show _ < 10 by omega) (by decide) ?_
    rw [(v3 p hp).1]
    refine mj_icmp_ne (tgt := 91) dMod_mayCome_84 (by decide) (fun hc3 => ?_) (fun hc3 => ?_)
    · refine mj_iconst (v := nI 0) dMod_mayCome_91 (by decide) ?_
      exact t92 false _ (by rw [hfl]; exact (beq_eq_false_iff_ne.mpr (fun z => hc3 (by rw [z]; rfl))).symm)
    · refine mj_iconst (v := nI 1) dMod_mayCome_87 (by decide) ?_
      refine mj_goto (tgt := 92) dMod_mayCome_88 (by decide) ?_
      exact t92 true _ (by rw [hfl]; exact (beq_iff_eq.mpr ((nI_eq (b := lowp (wv V) p) (by have := y7 (lowc V row); omega) (by have : lowp (wv V) p < 8 := hpb.1; omega)).mp hc3)).symm)
  have q : lowp (wv V) p = 0 := (nI_eq (b := 0) (a := lowp (wv V) p) (by have : lowp (wv V) p < 8 := hpb.1; omega) (by omega)).mp hc
  have hfl : fitL (wv V) w row (lowc V row) p = (row.length == 0 || lowp (wv V) (row.getD (row.length - 1) 0) != 0) := by unfold fitL; rw [if_pos q]
  refine mj_aload_n dMod_mayCome_30 rfl ?_
  refine mj_get dMod_mayCome_31 fg_Mod_144 rfl ?_
  rw [s1]
  refine mj_if_eq (tgt := 56) dMod_mayCome_34 (by decide) (fun hc2 => ?_) (fun hc2 => ?_)
  · have hz : row.length = 0 := (nI_eq (b := 0) (by omega) (by omega)).mp hc2
    refine mj_iconst (v := nI 1) dMod_mayCome_56 (by decide) ?_
    refine mj_goto (tgt := 92) dMod_mayCome_57 (by decide) ?_
    exact t92 true _ (by rw [hfl, hz]; rfl)
  have hz : 0 < row.length := by
    rcases Nat.eq_zero_or_pos row.length with z | z
    · exact absurd (by rw [z]; rfl) hc2
    · exact z
  have hz0 : (row.length == 0) = false := by rw [beq_eq_false_iff_ne]; omega
  have hlp := s4 _ (getD_mem (d := 0) (show row.length - 1 < row.length by omega))
  have hlb := v9 _ (getD_mem (d := (0, 0)) hlp)
  refine mj_aload_n dMod_mayCome_37 rfl ?_
  refine mj_get dMod_mayCome_38 fg_Mod_7 rfl ?_
  refine mj_aload_n dMod_mayCome_41 rfl ?_
  refine mj_get dMod_mayCome_42 fg_Mod_92 rfl ?_
  refine mj_aload_n dMod_mayCome_45 rfl ?_
  refine mj_get dMod_mayCome_46 fg_Mod_144 rfl ?_
  refine mj_iconst (v := nI 1) dMod_mayCome_49 (by decide) ?_
  refine mj_isub dMod_mayCome_50 ?_
  rw [s1, show nI row.length - nI 1 = nI (row.length - 1) from pk_sub (by omega)]
  refine mj_iaload dMod_mayCome_51 (by decide) rfl (show _ < 12 by omega) (by decide) ?_
  rw [s2 _ (by omega)]
  refine mj_iaload dMod_mayCome_52 (by decide) rfl (show _ < 10 by omega) (by decide) ?_
  rw [(v3 _ hlp).1]
  refine mj_if_le (tgt := 60) dMod_mayCome_53 (by decide) (fun hc3 => ?_) (fun hc3 => ?_)
  · have hz3 : lowp (wv V) (row.getD (row.length - 1) 0) = 0 := by
      have z := (nI_leI (b := 0) (a := lowp (wv V) (row.getD (row.length - 1) 0)) (by have : lowp (wv V) (row.getD (row.length - 1) 0) < 8 := hlb.1; omega) (by omega)).mp hc3
      omega
    refine mj_iconst (v := nI 0) dMod_mayCome_60 (by decide) ?_
    refine mj_goto (tgt := 92) dMod_mayCome_61 (by decide) ?_
    exact t92 false _ (by rw [hfl, hz0, hz3]; rfl)
  · have hz3 : ¬ lowp (wv V) (row.getD (row.length - 1) 0) = 0 := fun z => hc3 (by rw [show (V.1.getD (row.getD (row.length - 1) 0) (0, 0)).1 = 0 from z]; exact Int32.le_refl _)
    refine mj_iconst (v := nI 1) dMod_mayCome_56 (by decide) ?_
    refine mj_goto (tgt := 92) dMod_mayCome_57 (by decide) ?_
    exact t92 true _ (by rw [hfl, hz0, show (lowp (wv V) (row.getD (row.length - 1) 0) != 0) = true from by rw [bne_iff_ne]; exact hz3]; rfl)
end MNEXT
