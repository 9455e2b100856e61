/-! The reference's rules. -/
abbrev xV : Type := List (Nat × Nat) × List (Nat × Nat) × (Nat → Nat) × (Nat → Bool) × (Nat → Nat) × (Nat → Nat) × (Nat → Bool)
def inB (V : xV) (e p : Nat) : Bool := (V.2.2.2.2.2.1 e).testBit p
def allB (V : xV) (row : List Nat) (e f t : Nat) : Bool := (List.range' f (t - f)).all (fun i => inB V e (row.getD i 0))
def partB (V : xV) (row : List Nat) (e f t : Nat) : Bool := (V.2.2.2.2.2.2 e || t == f + 1) && allB V row e f t
def matB (V : xV) (row : List Nat) (p f t : Nat) : Bool := if V.2.2.2.2.1 p = 0 then f == t else if V.2.2.2.2.1 p = 1 then partB V row (2 * p) f t else (List.range' f (t + 1 - f)).any (fun c => partB V row (2 * p) f c && partB V row (2 * p + 1) c t)
def anyD (f : Nat → Bool) : Nat → Bool
  | 0 => false
  | p + 1 => f p || anyD f p
def befB (V : xV) (row : List Nat) (c i : Nat) : Bool := anyD (fun f => (!V.2.2.2.1 (2 * c) || f == 0) && matB V row (2 * c) f i) (i + 1)
def behB (V : xV) (row : List Nat) (c i : Nat) : Bool := (List.range' (i + 1) (row.length - i)).any (fun t => (!V.2.2.2.1 (2 * c + 1) || t == row.length) && matB V row (2 * c + 1) (i + 1) t)
def holdB (V : xV) (row : List Nat) (c i : Nat) : Bool := befB V row c i && behB V row c i
def someB (V : xV) (row : List Nat) (r i : Nat) : Bool := (List.range' 0 (V.2.2.1 r)).any (fun c => holdB V row (2 * r + c) i)
def ownB (V : xV) (row : List Nat) (r i : Nat) : Bool := row.getD i 0 == (V.2.1.getD r (0, 0)).2
def wrongB (k : Nat) (own some : Bool) : Bool := (own && (k == 0 || k == 2) && !some) || (!own && (k == 1 || k == 2) && some) || (own && k == 3 && some)
def keptAt (V : xV) (row : List Nat) (r i : Nat) : Bool := if ownB V row r i || (V.1.getD (row.getD i 0) (0, 0)).1 == (V.1.getD (V.2.1.getD r (0, 0)).2 (0, 0)).1 then !wrongB (V.2.1.getD r (0, 0)).1 (ownB V row r i) (someB V row r i) else true
def keptB (V : xV) (row : List Nat) (r : Nat) : Bool := (List.range' 0 row.length).all (keptAt V row r)
def keepsB (V : xV) (row : List Nat) : Bool := (List.range' 0 V.2.1.length).all (keptB V row)
/-- the memory holds V -/
def Rv (μ : xMu) (V : xV) : Prop := μ 0 1 = nI V.1.length ∧ μ 0 4 = nI V.2.1.length ∧ (∀ j, j < V.1.length → μ 1 j = nI (V.1.getD j (0, 0)).1 ∧ μ 2 j = nI (V.1.getD j (0, 0)).2) ∧ (∀ j, j < V.2.1.length → μ 3 j = nI (V.2.1.getD j (0, 0)).1 ∧ μ 4 j = nI (V.2.1.getD j (0, 0)).2) ∧ (∀ j, j < 4 → μ 5 j = nI (V.2.2.1 j)) ∧ (∀ j, j < 16 → μ 6 j = bI (V.2.2.2.1 j) ∧ μ 7 j = nI (V.2.2.2.2.1 j)) ∧ (∀ j, j < 32 → μ 8 j = nI (V.2.2.2.2.2.1 j) ∧ μ 9 j = bI (V.2.2.2.2.2.2 j)) ∧ V.1.length ≤ 10 ∧ (∀ z ∈ V.1, z.1 < 8 ∧ z.2 < 8) ∧ V.2.1.length ≤ 4 ∧ (∀ z ∈ V.2.1, z.1 < 4 ∧ z.2 < V.1.length) ∧ (∀ j, V.2.2.1 j ≤ 2) ∧ (∀ j, V.2.2.2.2.1 j ≤ 2) ∧ ∀ j, V.2.2.2.2.2.1 j < 2 ^ 10
/-- its row -/
def Rr (μ : xMu) (V : xV) (row : List Nat) : Prop := μ 0 36 = nI row.length ∧ (∀ i, i < row.length → μ 28 i = nI (row.getD i 0)) ∧ (∀ p ∈ row, p < V.1.length) ∧ row.length ≤ 11
theorem bI_t {b : Bool} (h : b = true) : bI b = 1 := by rw [h]; rfl
section MRULE
variable {l : Launch} {G : xG} {d m : Nat} {μ : xMu} {V : xV} {row : List Nat}
theorem c_Mod_thrown : Mc l G mMod_thrown d m [.ref m] μ (fun o μ' => o = .inl (some (.int (μ 0 0))) ∧ μ' = μ) := by
  refine mc_of (L := [_]) (by decide) (Nat.le_of_ble_eq_true rfl) rfl ?_
  refine mj_aload_n dMod_thrown_0 rfl ?_
  refine mj_get dMod_thrown_1 fg_Mod_107 rfl ?_
  exact mj_iret dMod_thrown_4 rfl ⟨rfl, rfl⟩
theorem c_Mod_noSign {a b : Int32} : Mc l G mMod_noSign d m [.ref m, .int a, .int b] μ (fun o μ' => o = .inl (some (.int (bI (decide (a.toInt < b.toInt ∨ 7 < a.toInt))))) ∧ μ' = μ) := by
  have yes : (a.toInt < b.toInt ∨ 7 < a.toInt) → Mj (l, G, d, m, fun o μ' => o = .inl (some (.int (bI (decide (a.toInt < b.toInt ∨ 7 < a.toInt))))) ∧ μ' = μ) mMod_noSign 11 [some (.ref m), some (.int a), some (.int b)] [] μ := by
    intro q
    refine mj_iconst (v := nI 1) dMod_noSign_11 (by decide) ?_
    refine mj_goto (tgt := 16) dMod_noSign_12 (by decide) ?_
    exact mj_zret dMod_noSign_16 rfl (by decide) ⟨by rw [show decide (a.toInt < b.toInt ∨ 7 < a.toInt) = true from by simpa using q]; rfl, rfl⟩
  refine mc_of (L := [_, _, _]) (by decide) (Nat.le_of_ble_eq_true rfl) rfl ?_
  refine mj_iload_n dMod_noSign_0 rfl ?_
  refine mj_iload_n dMod_noSign_1 rfl ?_
  refine mj_icmp_lt (tgt := 11) dMod_noSign_2 (by decide) (fun hc => ?_) (fun hc => ?_)
  · rw [Int32.lt_iff_toInt_lt] at hc; exact yes (Or.inl hc)
  rw [Int32.lt_iff_toInt_lt] at hc
  refine mj_iload_n dMod_noSign_5 rfl ?_
  refine mj_bipush (v := nI 7) dMod_noSign_6 (by decide) ?_
  refine mj_icmp_le (tgt := 15) dMod_noSign_8 (by decide) (fun hc2 => ?_) (fun hc2 => ?_)
  · rw [Int32.le_iff_toInt_le, nI_toInt (by omega)] at hc2
    refine mj_iconst (v := nI 0) dMod_noSign_15 (by decide) ?_
    exact mj_zret dMod_noSign_16 rfl (by decide) ⟨by rw [show decide (a.toInt < b.toInt ∨ 7 < a.toInt) = false from by simp; omega]; rfl, rfl⟩
  · rw [Int32.le_iff_toInt_le, nI_toInt (by omega)] at hc2
    exact yes (by omega)
theorem c_Mod_noRule {a : Int32} (HV : Rv μ V) : Mc l G mMod_noRule d m [.ref m, .int a] μ (fun o μ' => o = .inl (some (.int (bI (decide (a.toInt < 0 ∨ (V.2.1.length : Int) ≤ a.toInt))))) ∧ μ' = μ) := by
  obtain ⟨v1, v2, v3, v4, v5, v6, v7, v8, v9, v10, v11, v12, v13, v14⟩ := id HV
  have yes : (a.toInt < 0 ∨ (V.2.1.length : Int) ≤ a.toInt) → Mj (l, G, d, m, fun o μ' => o = .inl (some (.int (bI (decide (a.toInt < 0 ∨ (V.2.1.length : Int) ≤ a.toInt))))) ∧ μ' = μ) mMod_noRule 12 [some (.ref m), some (.int a)] [] μ := by
    intro q
    refine mj_iconst (v := nI 1) dMod_noRule_12 (by decide) ?_
    refine mj_goto (tgt := 17) dMod_noRule_13 (by decide) ?_
    exact mj_zret dMod_noRule_17 rfl (by decide) ⟨by rw [show decide (a.toInt < 0 ∨ (V.2.1.length : Int) ≤ a.toInt) = true from by simpa using q]; rfl, rfl⟩
  refine mc_of (L := [_, _]) (by decide) (Nat.le_of_ble_eq_true rfl) rfl ?_
  refine mj_iload_n dMod_noRule_0 rfl ?_
  refine mj_if_lt (tgt := 12) dMod_noRule_1 (by decide) (fun hc => ?_) (fun hc => ?_)
  · rw [lt0] at hc; exact yes (Or.inl hc)
  rw [lt0] at hc
  refine mj_iload_n dMod_noRule_4 rfl ?_
  refine mj_aload_n dMod_noRule_5 rfl ?_
  refine mj_get dMod_noRule_6 fg_Mod_121 rfl ?_
  rw [v2]
  refine mj_icmp_lt (tgt := 16) dMod_noRule_9 (by decide) (fun hc2 => ?_) (fun hc2 => ?_)
  · rw [ltN (by omega)] at hc2
    refine mj_iconst (v := nI 0) dMod_noRule_16 (by decide) ?_
    exact mj_zret dMod_noRule_17 rfl (by decide) ⟨by rw [show decide (a.toInt < 0 ∨ (V.2.1.length : Int) ≤ a.toInt) = false from by simp; omega]; rfl, rfl⟩
  · rw [ltN (by omega)] at hc2
    exact yes (by omega)
theorem c_Mod_inSet {e p : Nat} (he : e < 32) (hp : p < 10) (HV : Rv μ V) : Mc l G mMod_inSet d m [.ref m, .int (nI e), .int (nI p)] μ (fun o μ' => o = .inl (some (.int (bI (inB V e p)))) ∧ μ' = μ) := by
  obtain ⟨v1, v2, v3, v4, v5, v6, v7, v8, v9, v10, v11, v12, v13, v14⟩ := id HV
  have hs := v14 e
  refine mc_of (L := [_, _, _]) (by decide) (Nat.le_of_ble_eq_true rfl) rfl ?_
  refine mj_aload_n dMod_inSet_0 rfl ?_
  refine mj_get dMod_inSet_1 fg_Mod_32 rfl ?_
  refine mj_iload_n dMod_inSet_4 rfl ?_
  refine mj_iaload dMod_inSet_5 (by decide) rfl (show _ < 32 by omega) (by decide) ?_
  refine mj_iload_n dMod_inSet_6 rfl ?_
  rw [(v7 e he).1]
  refine mj_ishr dMod_inSet_7 ?_
  rw [nb_shr (by omega) (by omega)]
  refine mj_iconst (v := nI 1) dMod_inSet_8 (by decide) ?_
  refine mj_iand dMod_inSet_9 ?_
  rw [nb_and]
  refine mj_iconst (v := nI 1) dMod_inSet_10 (by decide) ?_
  have hlt : (V.2.2.2.2.2.1 e >>> p) &&& 1 < 2 ^ 1 := and_ltr (by decide)
  refine mj_icmp_ne (tgt := 18) dMod_inSet_11 (by decide) (fun hc => ?_) (fun hc => ?_)
  · have q : inB V e p = false := by
      cases h9 : inB V e p
      · rfl
      · exact absurd (by rw [nb_one.mpr h9]) hc
    refine mj_iconst (v := nI 0) dMod_inSet_18 (by decide) ?_
    exact mj_zret dMod_inSet_19 rfl (by decide) ⟨by rw [show inB V e p = false from q]; rfl, rfl⟩
  · have q : inB V e p = true := nb_one.mp ((nI_eq (by omega) (by omega)).mp hc)
    refine mj_iconst (v := nI 1) dMod_inSet_14 (by decide) ?_
    refine mj_goto (tgt := 19) dMod_inSet_15 (by decide) ?_
    exact mj_zret dMod_inSet_19 rfl (by decide) ⟨by rw [show inB V e p = true from q]; rfl, rfl⟩
theorem c_Mod_allIn {e f t : Nat} (he : e < 32) (hft : f ≤ t) (ht : t ≤ row.length) (HV : Rv μ V) (HR : Rr μ V row) : Mc l G mMod_allIn (d + 1) m [.ref m, .int (nI e), .int (nI f), .int (nI t)] μ (fun o μ' => o = .inl (some (.int (bI (allB V row e f t)))) ∧ μ' = μ) := by
  obtain ⟨v1, v2, v3, v4, v5, v6, v7, v8, v9, v10, v11, v12, v13, v14⟩ := id HV
  obtain ⟨w1, w2, w3, w4⟩ := id HR
  have loop : ∀ (j i : Nat) (acc : Bool), i + j = t → (acc && (List.range' i j).all (fun i => inB V e (row.getD i 0))) = allB V row e f t → Mj (l, G, d + 1, m, fun o μ' => o = .inl (some (.int (bI (allB V row e f t)))) ∧ μ' = μ) mMod_allIn 6 [some (.ref m), some (.int (nI e)), some (.int (nI f)), some (.int (nI t)), some (.int (bI acc)), some (.int (nI i))] [] μ := by
    intro j
    induction j with
    | zero =>
      intro i acc hij hr
      refine mj_iload dMod_allIn_6 rfl ?_
      refine mj_iload_n dMod_allIn_8 rfl ?_
      refine mj_icmp_ge (tgt := 45) dMod_allIn_9 (by decide) (fun hc => ?_) (fun hc => ?_)
      · refine mj_iload dMod_allIn_45 rfl ?_
        exact mj_zret dMod_allIn_47 rfl (bI_01 _) ⟨by rw [← hr]; simp, rfl⟩
      · exact absurd (nI_le (by omega) (by omega)) hc
    | succ j ih =>
      intro i acc hij hr
      rw [List.range'_succ, List.all_cons, ← Bool.and_assoc] at hr
      have next : ∀ z : Bool, z = (acc && inB V e (row.getD i 0)) → Mj (l, G, d + 1, m, fun o μ' => o = .inl (some (.int (bI (allB V row e f t)))) ∧ μ' = μ) mMod_allIn 37 [some (.ref m), some (.int (nI e)), some (.int (nI f)), some (.int (nI t)), some (.int (bI acc)), some (.int (nI i))] [.int (bI z)] μ := by
        intro z hz
        refine mj_istore (L' := [_, _, _, _, _, _]) dMod_allIn_37 (by decide) rfl ?_
        refine mj_iinc (L' := [_, _, _, _, _, _]) dMod_allIn_39 rfl rfl (by decide) rfl ?_
        refine mj_goto (tgt := 6) dMod_allIn_42 (by decide) ?_
        rw [show nI i + Int32.ofInt 1 = nI (i + 1) from nI_1 i]
        exact ih (i + 1) z (by omega) (by rw [hz]; exact hr)
      refine mj_iload dMod_allIn_6 rfl ?_
      refine mj_iload_n dMod_allIn_8 rfl ?_
      refine mj_icmp_ge (tgt := 45) dMod_allIn_9 (by decide) (fun hc => ?_) (fun hc => ?_)
      · exact absurd hc (nI_ge (by omega) (by omega))
      refine mj_iload dMod_allIn_12 rfl ?_
      refine mj_if_eq (tgt := 36) dMod_allIn_14 (by decide) (fun hc2 => ?_) (fun hc2 => ?_)
      · refine mj_iconst (v := nI 0) dMod_allIn_36 (by decide) ?_
        exact next false (by rw [bI_0.mp hc2]; rfl)
      refine mj_aload_n dMod_allIn_17 rfl ?_
      refine mj_iload_n dMod_allIn_18 rfl ?_
      refine mj_aload_n dMod_allIn_19 rfl ?_
      refine mj_get dMod_allIn_20 fg_Mod_92 rfl ?_
      refine mj_iload dMod_allIn_23 rfl ?_
      refine mj_iaload dMod_allIn_25 (by decide) rfl (show _ < 12 by omega) (by decide) ?_
      rw [w2 i (by omega)]
      have hp := w3 _ (getD_mem (d := 0) (show i < row.length by omega))
      refine mj_p2 dMod_allIn_26 ip_Mod_131 cd_Mod_inSet ar_Mod_inSet (c_Mod_inSet (d := d) (e := e) (p := row.getD i 0) he (by omega) HV) (by dsimp only; omega) (Nat.le_of_ble_eq_true rfl) (fun E m9 q9 => by simp at q9) (fun v9 μ9 hq => ?_)
      obtain ⟨e, e1⟩ := hq
      cases e
      rw [e1]
      refine mj_if_eq (tgt := 36) dMod_allIn_29 (by decide) (fun hc3 => ?_) (fun hc3 => ?_)
      · refine mj_iconst (v := nI 0) dMod_allIn_36 (by decide) ?_
        exact next false (by rw [bI_0.mp hc3, Bool.and_false])
      refine mj_iconst (v := nI 1) dMod_allIn_32 (by decide) ?_
      refine mj_goto (tgt := 37) dMod_allIn_33 (by decide) ?_
      exact next true (by rw [bI_1 hc2, bI_1 hc3]; rfl)
  refine mc_of (L := [_, _, _, _, _, _]) (by decide) (Nat.le_of_ble_eq_true rfl) rfl ?_
  refine mj_iconst (v := nI 1) dMod_allIn_0 (by decide) ?_
  refine mj_istore (L' := [_, _, _, _, _, _]) dMod_allIn_1 (by decide) rfl ?_
  refine mj_iload_n dMod_allIn_3 rfl ?_
  refine mj_istore (L' := [_, _, _, _, _, _]) dMod_allIn_4 (by decide) rfl ?_
  exact loop (t - f) f true (by omega) (by rw [Bool.true_and]; rfl)
theorem c_Mod_isPart {e f t : Nat} (he : e < 32) (hft : f ≤ t) (ht : t ≤ row.length) (HV : Rv μ V) (HR : Rr μ V row) : Mc l G mMod_isPart (d + 2) m [.ref m, .int (nI e), .int (nI f), .int (nI t)] μ (fun o μ' => o = .inl (some (.int (bI (partB V row e f t)))) ∧ μ' = μ) := by
  obtain ⟨v1, v2, v3, v4, v5, v6, v7, v8, v9, v10, v11, v12, v13, v14⟩ := id HV
  obtain ⟨w1, w2, w3, w4⟩ := id HR
  have t16 : (V.2.2.2.2.2.2 e || t == f + 1) = true → Mj (l, G, d + 2, m, fun o μ' => o = .inl (some (.int (bI (partB V row e f t)))) ∧ μ' = μ) mMod_isPart 16 [some (.ref m), some (.int (nI e)), some (.int (nI f)), some (.int (nI t))] [] μ := by
    intro q
    refine mj_aload_n dMod_isPart_16 rfl ?_
    refine mj_iload_n dMod_isPart_17 rfl ?_
    refine mj_iload_n dMod_isPart_18 rfl ?_
    refine mj_iload_n dMod_isPart_19 rfl ?_
    refine mj_p3 dMod_isPart_20 ip_Mod_134 cd_Mod_allIn ar_Mod_allIn (c_Mod_allIn (d := d) he hft ht HV HR) (by dsimp only; omega) (Nat.le_of_ble_eq_true rfl) (fun E m9 q9 => by simp at q9) (fun v9 μ9 hq => ?_)
    obtain ⟨e, e1⟩ := hq
    cases e
    rw [e1]
    refine mj_if_eq (tgt := 30) dMod_isPart_23 (by decide) (fun hc => ?_) (fun hc => ?_)
    · refine mj_iconst (v := nI 0) dMod_isPart_30 (by decide) ?_
      exact mj_zret dMod_isPart_31 rfl (by decide) ⟨by rw [show partB V row e f t = false from by unfold partB; rw [bI_0.mp hc, Bool.and_false]]; rfl, rfl⟩
    · refine mj_iconst (v := nI 1) dMod_isPart_26 (by decide) ?_
      refine mj_goto (tgt := 31) dMod_isPart_27 (by decide) ?_
      exact mj_zret dMod_isPart_31 rfl (by decide) ⟨by rw [show partB V row e f t = true from by unfold partB; rw [q, bI_1 hc]; rfl]; rfl, rfl⟩
  refine mc_of (L := [_, _, _, _]) (by decide) (Nat.le_of_ble_eq_true rfl) rfl ?_
  refine mj_aload_n dMod_isPart_0 rfl ?_
  refine mj_get dMod_isPart_1 fg_Mod_35 rfl ?_
  refine mj_iload_n dMod_isPart_4 rfl ?_
  refine mj_baload dMod_isPart_5 (by decide) rfl (show _ < 32 by omega) (by decide) ?_
  rw [(v7 e he).2]
  refine mj_if_ne (tgt := 16) dMod_isPart_6 (by decide) (fun hc => ?_) (fun hc => ?_)
  · exact t16 (by rw [bI_1 hc]; rfl)
  refine mj_iload_n dMod_isPart_9 rfl ?_
  refine mj_iload_n dMod_isPart_10 rfl ?_
  refine mj_iconst (v := nI 1) dMod_isPart_11 (by decide) ?_
  refine mj_iadd dMod_isPart_12 ?_
  rw [show nI f + nI 1 = nI (f + 1) from nI_add _ _]
  refine mj_icmp_ne (tgt := 30) dMod_isPart_13 (by decide) (fun hc2 => ?_) (fun hc2 => ?_)
  · refine mj_iconst (v := nI 0) dMod_isPart_30 (by decide) ?_
    have q : ¬ t = f + 1 := fun q => hc2 (by rw [q])
    exact mj_zret dMod_isPart_31 rfl (by decide) ⟨by rw [show partB V row e f t = false from by unfold partB; rw [bI_0.mp hc, show (t == f + 1) = false from by simpa using q]; rfl]; rfl, rfl⟩
  · exact t16 (by rw [show (t == f + 1) = true from by simpa using (nI_eq (by omega) (by omega)).mp hc2, Bool.or_true])
theorem c_Mod_isMatched {p f t : Nat} (hp : p < 16) (hft : f ≤ t) (ht : t ≤ row.length) (HV : Rv μ V) (HR : Rr μ V row) : Mc l G mMod_isMatched (d + 3) m [.ref m, .int (nI p), .int (nI f), .int (nI t)] μ (fun o μ' => o = .inl (some (.int (bI (matB V row p f t)))) ∧ μ' = μ) := by
  obtain ⟨v1, v2, v3, v4, v5, v6, v7, v8, v9, v10, v11, v12, v13, v14⟩ := id HV
  obtain ⟨w1, w2, w3, w4⟩ := id HR
  have he := v13 p
  have loop : ∀ (j i : Nat) (acc : Bool), i + j = t + 1 → f ≤ i → (acc || (List.range' i j).any (fun c => partB V row (2 * p) f c && partB V row (2 * p + 1) c t)) = matB V row p f t → Mj (l, G, d + 3, m, fun o μ' => o = .inl (some (.int (bI (matB V row p f t)))) ∧ μ' = μ) mMod_isMatched 46 [some (.ref m), some (.int (nI p)), some (.int (nI f)), some (.int (nI t)), some (.int (bI acc)), some (.int (nI i))] [] μ := by
    intro j
    induction j with
    | zero =>
      intro i acc hij hfi hr
      refine mj_iload dMod_isMatched_46 rfl ?_
      refine mj_iload_n dMod_isMatched_48 rfl ?_
      refine mj_icmp_gt (tgt := 98) dMod_isMatched_49 (by decide) (fun hc => ?_) (fun hc => ?_)
      · refine mj_iload dMod_isMatched_98 rfl ?_
        exact mj_zret dMod_isMatched_100 rfl (bI_01 _) ⟨by rw [← hr]; simp, rfl⟩
      · exact absurd (nI_lt (by omega) (by omega)) hc
    | succ j ih =>
      intro i acc hij hfi hr
      rw [List.range'_succ, List.any_cons, ← Bool.or_assoc] at hr
      have next : ∀ z : Bool, z = (acc || (partB V row (2 * p) f i && partB V row (2 * p + 1) i t)) → Mj (l, G, d + 3, m, fun o μ' => o = .inl (some (.int (bI (matB V row p f t)))) ∧ μ' = μ) mMod_isMatched 90 [some (.ref m), some (.int (nI p)), some (.int (nI f)), some (.int (nI t)), some (.int (bI acc)), some (.int (nI i))] [.int (bI z)] μ := by
        intro z hz
        refine mj_istore (L' := [_, _, _, _, _, _]) dMod_isMatched_90 (by decide) rfl ?_
        refine mj_iinc (L' := [_, _, _, _, _, _]) dMod_isMatched_92 rfl rfl (by decide) rfl ?_
        refine mj_goto (tgt := 46) dMod_isMatched_95 (by decide) ?_
        rw [show nI i + Int32.ofInt 1 = nI (i + 1) from nI_1 i]
        exact ih (i + 1) z (by omega) (by omega) (by rw [hz]; exact hr)
      refine mj_iload dMod_isMatched_46 rfl ?_
      refine mj_iload_n dMod_isMatched_48 rfl ?_
      refine mj_icmp_gt (tgt := 98) dMod_isMatched_49 (by decide) (fun hc => ?_) (fun hc => ?_)
      · exact absurd hc (nI_nlt (by omega) (by omega))
      refine mj_iload dMod_isMatched_52 rfl ?_
      refine mj_if_ne (tgt := 85) dMod_isMatched_54 (by decide) (fun hc2 => ?_) (fun hc2 => ?_)
      · refine mj_iconst (v := nI 1) dMod_isMatched_85 (by decide) ?_
        refine mj_goto (tgt := 90) dMod_isMatched_86 (by decide) ?_
        exact next true (by rw [bI_1 hc2]; rfl)
      have hacc := bI_0.mp hc2
      refine mj_aload_n dMod_isMatched_57 rfl ?_
      refine mj_iconst (v := nI 2) dMod_isMatched_58 (by decide) ?_
      refine mj_iload_n dMod_isMatched_59 rfl ?_
      refine mj_imul dMod_isMatched_60 ?_
      refine mj_iload_n dMod_isMatched_61 rfl ?_
      refine mj_iload dMod_isMatched_62 rfl ?_
      rw [show nI 2 * nI p = nI (2 * p) from pk_mul _ _]
      refine mj_p3 dMod_isMatched_64 ip_Mod_138 cd_Mod_isPart ar_Mod_isPart (c_Mod_isPart (d := d) (e := 2 * p) (f := f) (t := i) (by omega) hfi (by omega) HV HR) (by dsimp only; omega) (Nat.le_of_ble_eq_true rfl) (fun E m9 q9 => by simp at q9) (fun v9 μ9 hq => ?_)
      obtain ⟨e, e1⟩ := hq
      cases e
      rw [e1]
      refine mj_if_eq (tgt := 89) dMod_isMatched_67 (by decide) (fun hc3 => ?_) (fun hc3 => ?_)
      · refine mj_iconst (v := nI 0) dMod_isMatched_89 (by decide) ?_
        exact next false (by rw [hacc, bI_0.mp hc3]; rfl)
      refine mj_aload_n dMod_isMatched_70 rfl ?_
      refine mj_iconst (v := nI 2) dMod_isMatched_71 (by decide) ?_
      refine mj_iload_n dMod_isMatched_72 rfl ?_
      refine mj_imul dMod_isMatched_73 ?_
      refine mj_iconst (v := nI 1) dMod_isMatched_74 (by decide) ?_
      refine mj_iadd dMod_isMatched_75 ?_
      refine mj_iload dMod_isMatched_76 rfl ?_
      refine mj_iload_n dMod_isMatched_78 rfl ?_
      rw [show nI 2 * nI p = nI (2 * p) from pk_mul _ _, show nI (2 * p) + nI 1 = nI (2 * p + 1) from nI_add _ _]
      refine mj_p3 dMod_isMatched_79 ip_Mod_138 cd_Mod_isPart ar_Mod_isPart (c_Mod_isPart (d := d) (e := 2 * p + 1) (f := i) (t := t) (by omega) (by omega) ht HV HR) (by dsimp only; omega) (Nat.le_of_ble_eq_true rfl) (fun E m9 q9 => by simp at q9) (fun v8 μ8 hq => ?_)
      obtain ⟨e, e1⟩ := hq
      cases e
      rw [e1]
      refine mj_if_eq (tgt := 89) dMod_isMatched_82 (by decide) (fun hc4 => ?_) (fun hc4 => ?_)
      · refine mj_iconst (v := nI 0) dMod_isMatched_89 (by decide) ?_
        exact next false (by rw [hacc, bI_0.mp hc4, Bool.and_false]; rfl)
      refine mj_iconst (v := nI 1) dMod_isMatched_85 (by decide) ?_
      refine mj_goto (tgt := 90) dMod_isMatched_86 (by decide) ?_
      exact next true (by rw [bI_1 hc3, bI_1 hc4, hacc]; rfl)
  refine mc_of (L := [_, _, _, _, _, _]) (by decide) (Nat.le_of_ble_eq_true rfl) rfl ?_
  refine mj_aload_n dMod_isMatched_0 rfl ?_
  refine mj_get dMod_isMatched_1 fg_Mod_29 rfl ?_
  refine mj_iload_n dMod_isMatched_4 rfl ?_
  refine mj_iaload dMod_isMatched_5 (by decide) rfl (show _ < 16 by omega) (by decide) ?_
  rw [(v6 p hp).2]
  refine mj_if_ne (tgt := 20) dMod_isMatched_6 (by decide) (fun hc => ?_) (fun hc => ?_)
  rotate_left
  · have q : V.2.2.2.2.1 p = 0 := (nI_eq (b := 0) (by omega) (by omega)).mp hc
    refine mj_iload_n dMod_isMatched_9 rfl ?_
    refine mj_iload_n dMod_isMatched_10 rfl ?_
    refine mj_icmp_ne (tgt := 18) dMod_isMatched_11 (by decide) (fun hc2 => ?_) (fun hc2 => ?_)
    · refine mj_iconst (v := nI 0) dMod_isMatched_18 (by decide) ?_
      have q2 : ¬ f = t := fun z => hc2 (by rw [z])
      exact mj_zret dMod_isMatched_19 rfl (by decide) ⟨by rw [show matB V row p f t = false from by unfold matB; rw [if_pos q]; simpa using q2]; rfl, rfl⟩
    · refine mj_iconst (v := nI 1) dMod_isMatched_14 (by decide) ?_
      refine mj_goto (tgt := 19) dMod_isMatched_15 (by decide) ?_
      have q2 : f = t := (nI_eq (by omega) (by omega)).mp hc2
      exact mj_zret dMod_isMatched_19 rfl (by decide) ⟨by rw [show matB V row p f t = true from by unfold matB; rw [if_pos q]; simpa using q2]; rfl, rfl⟩
  have q : ¬ V.2.2.2.2.1 p = 0 := fun z => hc (by rw [z]; rfl)
  refine mj_aload_n dMod_isMatched_20 rfl ?_
  refine mj_get dMod_isMatched_21 fg_Mod_29 rfl ?_
  refine mj_iload_n dMod_isMatched_24 rfl ?_
  refine mj_iaload dMod_isMatched_25 (by decide) rfl (show _ < 16 by omega) (by decide) ?_
  refine mj_iconst (v := nI 1) dMod_isMatched_26 (by decide) ?_
  rw [(v6 p hp).2]
  refine mj_icmp_ne (tgt := 40) dMod_isMatched_27 (by decide) (fun hc2 => ?_) (fun hc2 => ?_)
  · have q2 : ¬ V.2.2.2.2.1 p = 1 := fun z => hc2 (by rw [z])
    refine mj_iconst (v := nI 0) dMod_isMatched_40 (by decide) ?_
    refine mj_istore (L' := [_, _, _, _, _, _]) dMod_isMatched_41 (by decide) rfl ?_
    refine mj_iload_n dMod_isMatched_43 rfl ?_
    refine mj_istore (L' := [_, _, _, _, _, _]) dMod_isMatched_44 (by decide) rfl ?_
    exact loop (t + 1 - f) f false (by omega) (Nat.le_refl _) (by rw [Bool.false_or]; unfold matB; rw [if_neg q, if_neg q2])
  · have q2 : V.2.2.2.2.1 p = 1 := (nI_eq (by omega) (by omega)).mp hc2
    refine mj_aload_n dMod_isMatched_30 rfl ?_
    refine mj_iconst (v := nI 2) dMod_isMatched_31 (by decide) ?_
    refine mj_iload_n dMod_isMatched_32 rfl ?_
    refine mj_imul dMod_isMatched_33 ?_
    refine mj_iload_n dMod_isMatched_34 rfl ?_
    refine mj_iload_n dMod_isMatched_35 rfl ?_
    rw [show nI 2 * nI p = nI (2 * p) from pk_mul _ _]
    refine mj_p3 dMod_isMatched_36 ip_Mod_138 cd_Mod_isPart ar_Mod_isPart (c_Mod_isPart (d := d) (e := 2 * p) (f := f) (t := t) (by omega) hft ht HV HR) (by dsimp only; omega) (Nat.le_of_ble_eq_true rfl) (fun E m9 q9 => by simp at q9) (fun v9 μ9 hq => ?_)
    obtain ⟨e, e1⟩ := hq
    cases e
    rw [e1]
    exact mj_zret dMod_isMatched_39 rfl (bI_01 _) ⟨by unfold matB; rw [if_neg q, if_pos q2], rfl⟩
theorem c_Mod_holds {c i : Nat} (hc8 : c < 8) (hi : i < row.length) (HV : Rv μ V) (HR : Rr μ V row) : Mc l G mMod_holds (d + 4) m [.ref m, .int (nI c), .int (nI i)] μ (fun o μ' => o = .inl (some (.int (bI (holdB V row c i)))) ∧ μ' = μ) := by
  obtain ⟨v1, v2, v3, v4, v5, v6, v7, v8, v9, v10, v11, v12, v13, v14⟩ := id HV
  obtain ⟨w1, w2, w3, w4⟩ := id HR
  have loop2 : ∀ (j t : Nat) (acc : Bool), t + j = row.length + 1 → i + 1 ≤ t → befB V row c i = true → (acc || (List.range' t j).any (fun t => (!V.2.2.2.1 (2 * c + 1) || t == row.length) && matB V row (2 * c + 1) (i + 1) t)) = behB V row c i → Mj (l, G, d + 4, m, fun o μ' => o = .inl (some (.int (bI (holdB V row c i)))) ∧ μ' = μ) mMod_holds 69 [some (.ref m), some (.int (nI c)), some (.int (nI i)), some (.int (bI true)), some (.int (bI acc)), some (.int (nI t))] [] μ := by
    intro j
    induction j with
    | zero =>
      intro t acc hij hfi hb hr
      refine mj_iload dMod_holds_69 rfl ?_
      refine mj_aload_n dMod_holds_71 rfl ?_
      refine mj_get dMod_holds_72 fg_Mod_144 rfl ?_
      rw [w1]
      refine mj_icmp_gt (tgt := 135) dMod_holds_75 (by decide) (fun hc => ?_) (fun hc => ?_)
      · refine mj_iload dMod_holds_135 rfl ?_
        exact mj_zret dMod_holds_137 rfl (bI_01 _) ⟨by unfold holdB; rw [hb, ← hr]; simp, rfl⟩
      · exact absurd (nI_lt (by omega) (by omega)) hc
    | succ j ih =>
      intro t acc hij hfi hb hr
      rw [List.range'_succ, List.any_cons, ← Bool.or_assoc] at hr
      have next : ∀ z : Bool, z = (acc || ((!V.2.2.2.1 (2 * c + 1) || t == row.length) && matB V row (2 * c + 1) (i + 1) t)) → Mj (l, G, d + 4, m, fun o μ' => o = .inl (some (.int (bI (holdB V row c i)))) ∧ μ' = μ) mMod_holds 127 [some (.ref m), some (.int (nI c)), some (.int (nI i)), some (.int (bI true)), some (.int (bI acc)), some (.int (nI t))] [.int (bI z)] μ := by
        intro z hz
        refine mj_istore (L' := [_, _, _, _, _, _]) dMod_holds_127 (by decide) rfl ?_
        refine mj_iinc (L' := [_, _, _, _, _, _]) dMod_holds_129 rfl rfl (by decide) rfl ?_
        refine mj_goto (tgt := 69) dMod_holds_132 (by decide) ?_
        rw [show nI t + Int32.ofInt 1 = nI (t + 1) from nI_1 t]
        exact ih (t + 1) z (by omega) (by omega) hb (by rw [hz]; exact hr)
      have t105 : acc = false → (!V.2.2.2.1 (2 * c + 1) || t == row.length) = true → Mj (l, G, d + 4, m, fun o μ' => o = .inl (some (.int (bI (holdB V row c i)))) ∧ μ' = μ) mMod_holds 105 [some (.ref m), some (.int (nI c)), some (.int (nI i)), some (.int (bI true)), some (.int (bI acc)), some (.int (nI t))] [] μ := by
        intro hacc hz
        refine mj_aload_n dMod_holds_105 rfl ?_
        refine mj_iconst (v := nI 2) dMod_holds_106 (by decide) ?_
        refine mj_iload_n dMod_holds_107 rfl ?_
        refine mj_imul dMod_holds_108 ?_
        refine mj_iconst (v := nI 1) dMod_holds_109 (by decide) ?_
        refine mj_iadd dMod_holds_110 ?_
        refine mj_iload_n dMod_holds_111 rfl ?_
        refine mj_iconst (v := nI 1) dMod_holds_112 (by decide) ?_
        refine mj_iadd dMod_holds_113 ?_
        refine mj_iload dMod_holds_114 rfl ?_
        rw [show nI 2 * nI c = nI (2 * c) from pk_mul _ _, show nI (2 * c) + nI 1 = nI (2 * c + 1) from nI_add _ _, show nI i + nI 1 = nI (i + 1) from nI_add _ _]
        refine mj_p3 dMod_holds_116 ip_Mod_141 cd_Mod_isMatched ar_Mod_isMatched (c_Mod_isMatched (d := d) (p := 2 * c + 1) (f := i + 1) (t := t) (by omega) hfi (by omega) HV HR) (by dsimp only; omega) (Nat.le_of_ble_eq_true rfl) (fun E m9 q9 => by simp at q9) (fun v9 μ9 hq => ?_)
        obtain ⟨e, e1⟩ := hq
        cases e
        rw [e1]
        refine mj_if_eq (tgt := 126) dMod_holds_119 (by decide) (fun hc3 => ?_) (fun hc3 => ?_)
        · refine mj_iconst (v := nI 0) dMod_holds_126 (by decide) ?_
          exact next false (by rw [hacc, hz, bI_0.mp hc3]; rfl)
        · refine mj_iconst (v := nI 1) dMod_holds_122 (by decide) ?_
          refine mj_goto (tgt := 127) dMod_holds_123 (by decide) ?_
          exact next true (by rw [hacc, hz, bI_1 hc3]; rfl)
      refine mj_iload dMod_holds_69 rfl ?_
      refine mj_aload_n dMod_holds_71 rfl ?_
      refine mj_get dMod_holds_72 fg_Mod_144 rfl ?_
      rw [w1]
      refine mj_icmp_gt (tgt := 135) dMod_holds_75 (by decide) (fun hc => ?_) (fun hc => ?_)
      · exact absurd hc (nI_nlt (by omega) (by omega))
      refine mj_iload dMod_holds_78 rfl ?_
      refine mj_if_ne (tgt := 122) dMod_holds_80 (by decide) (fun hc2 => ?_) (fun hc2 => ?_)
      · refine mj_iconst (v := nI 1) dMod_holds_122 (by decide) ?_
        refine mj_goto (tgt := 127) dMod_holds_123 (by decide) ?_
        exact next true (by rw [bI_1 hc2]; rfl)
      have hacc := bI_0.mp hc2
      refine mj_aload_n dMod_holds_83 rfl ?_
      refine mj_get dMod_holds_84 fg_Mod_25 rfl ?_
      refine mj_iconst (v := nI 2) dMod_holds_87 (by decide) ?_
      refine mj_iload_n dMod_holds_88 rfl ?_
      refine mj_imul dMod_holds_89 ?_
      refine mj_iconst (v := nI 1) dMod_holds_90 (by decide) ?_
      refine mj_iadd dMod_holds_91 ?_
      rw [show nI 2 * nI c = nI (2 * c) from pk_mul _ _, show nI (2 * c) + nI 1 = nI (2 * c + 1) from nI_add _ _]
      refine mj_baload dMod_holds_92 (by decide) rfl (show _ < 16 by omega) (by decide) ?_
      rw [(v6 (2 * c + 1) (by omega)).1]
      refine mj_if_eq (tgt := 105) dMod_holds_93 (by decide) (fun hc3 => ?_) (fun hc3 => ?_)
      · exact t105 hacc (by rw [bI_0.mp hc3]; rfl)
      refine mj_iload dMod_holds_96 rfl ?_
      refine mj_aload_n dMod_holds_98 rfl ?_
      refine mj_get dMod_holds_99 fg_Mod_144 rfl ?_
      rw [w1]
      refine mj_icmp_ne (tgt := 126) dMod_holds_102 (by decide) (fun hc4 => ?_) (fun hc4 => ?_)
      · refine mj_iconst (v := nI 0) dMod_holds_126 (by decide) ?_
        have q : ¬ t = row.length := fun z => hc4 (by rw [z])
        exact next false (by rw [hacc, bI_1 hc3, show (t == row.length) = false from by simpa using q]; rfl)
      · exact t105 hacc (by rw [show (t == row.length) = true from by simpa using (nI_eq (by omega) (by omega)).mp hc4, Bool.or_true])
  have loop1 : ∀ (p : Nat) (acc : Bool) (x5 : Option Value), p ≤ i + 1 → (acc || anyD (fun f => (!V.2.2.2.1 (2 * c) || f == 0) && matB V row (2 * c) f i) p) = befB V row c i → Mj (l, G, d + 4, m, fun o μ' => o = .inl (some (.int (bI (holdB V row c i)))) ∧ μ' = μ) mMod_holds 5 [some (.ref m), some (.int (nI c)), some (.int (nI i)), some (.int (bI acc)), some (.int (nI p - nI 1)), x5] [] μ := by
    intro p
    induction p with
    | zero =>
      intro acc x5 hp hr
      refine mj_iload dMod_holds_5 rfl ?_
      refine mj_if_lt (tgt := 55) dMod_holds_7 (by decide) (fun hc => ?_) (fun hc => ?_)
      · rw [anyD, Bool.or_false] at hr
        refine mj_iload_n dMod_holds_55 rfl ?_
        refine mj_if_ne (tgt := 61) dMod_holds_56 (by decide) (fun hc2 => ?_) (fun hc2 => ?_)
        · have ha := bI_1 hc2
          subst ha
          refine mj_iconst (v := nI 0) dMod_holds_61 (by decide) ?_
          refine mj_istore (L' := [_, _, _, _, _, _]) dMod_holds_62 (by decide) rfl ?_
          refine mj_iload_n dMod_holds_64 rfl ?_
          refine mj_iconst (v := nI 1) dMod_holds_65 (by decide) ?_
          refine mj_iadd dMod_holds_66 ?_
          refine mj_istore (L' := [_, _, _, _, _, _]) dMod_holds_67 (by decide) rfl ?_
          rw [show nI i + nI 1 = nI (i + 1) from nI_add _ _]
          exact loop2 (row.length - i) (i + 1) false (by omega) (Nat.le_refl _) hr.symm (by rw [Bool.false_or]; rfl)
        · refine mj_iconst (v := nI 0) dMod_holds_59 (by decide) ?_
          exact mj_zret dMod_holds_60 rfl (by decide) ⟨by rw [show holdB V row c i = false from by unfold holdB; rw [← hr, bI_0.mp hc2]; rfl]; rfl, rfl⟩
      · exact absurd (by decide) hc
    | succ p ih =>
      intro acc x5 hp hr
      rw [anyD, ← Bool.or_assoc] at hr
      rw [show nI (p + 1) - nI 1 = nI p from pk_sub (a := p + 1) (b := 1) (by omega)]
      have next : ∀ z : Bool, z = (acc || ((!V.2.2.2.1 (2 * c) || p == 0) && matB V row (2 * c) p i)) → Mj (l, G, d + 4, m, fun o μ' => o = .inl (some (.int (bI (holdB V row c i)))) ∧ μ' = μ) mMod_holds 48 [some (.ref m), some (.int (nI c)), some (.int (nI i)), some (.int (bI acc)), some (.int (nI p)), x5] [.int (bI z)] μ := by
        intro z hz
        refine mj_istore_n (L' := [_, _, _, _, _, _]) dMod_holds_48 (by decide) rfl ?_
        refine mj_iinc (L' := [_, _, _, _, _, _]) dMod_holds_49 rfl rfl (by decide) rfl ?_
        refine mj_goto (tgt := 5) dMod_holds_52 (by decide) ?_
        rw [show nI p + Int32.ofInt (-1) = nI p - nI 1 from by rw [show Int32.ofInt (-1) = -nI 1 from by decide, ← Int32.sub_eq_add_neg]]
        exact ih z x5 (by omega) (by rw [hz]; exact hr)
      have t30 : acc = false → (!V.2.2.2.1 (2 * c) || p == 0) = true → Mj (l, G, d + 4, m, fun o μ' => o = .inl (some (.int (bI (holdB V row c i)))) ∧ μ' = μ) mMod_holds 30 [some (.ref m), some (.int (nI c)), some (.int (nI i)), some (.int (bI acc)), some (.int (nI p)), x5] [] μ := by
        intro hacc hz
        refine mj_aload_n dMod_holds_30 rfl ?_
        refine mj_iconst (v := nI 2) dMod_holds_31 (by decide) ?_
        refine mj_iload_n dMod_holds_32 rfl ?_
        refine mj_imul dMod_holds_33 ?_
        refine mj_iload dMod_holds_34 rfl ?_
        refine mj_iload_n dMod_holds_36 rfl ?_
        rw [show nI 2 * nI c = nI (2 * c) from pk_mul _ _]
        refine mj_p3 dMod_holds_37 ip_Mod_141 cd_Mod_isMatched ar_Mod_isMatched (c_Mod_isMatched (d := d) (p := 2 * c) (f := p) (t := i) (by omega) (by omega) (by omega) HV HR) (by dsimp only; omega) (Nat.le_of_ble_eq_true rfl) (fun E m9 q9 => by simp at q9) (fun v9 μ9 hq => ?_)
        obtain ⟨e, e1⟩ := hq
        cases e
        rw [e1]
        refine mj_if_eq (tgt := 47) dMod_holds_40 (by decide) (fun hc3 => ?_) (fun hc3 => ?_)
        · refine mj_iconst (v := nI 0) dMod_holds_47 (by decide) ?_
          exact next false (by rw [hacc, hz, bI_0.mp hc3]; rfl)
        · refine mj_iconst (v := nI 1) dMod_holds_43 (by decide) ?_
          refine mj_goto (tgt := 48) dMod_holds_44 (by decide) ?_
          exact next true (by rw [hacc, hz, bI_1 hc3]; rfl)
      refine mj_iload dMod_holds_5 rfl ?_
      refine mj_if_lt (tgt := 55) dMod_holds_7 (by decide) (fun hc => ?_) (fun hc => ?_)
      · exact absurd hc (nI_pos (by omega))
      refine mj_iload_n dMod_holds_10 rfl ?_
      refine mj_if_ne (tgt := 43) dMod_holds_11 (by decide) (fun hc2 => ?_) (fun hc2 => ?_)
      · refine mj_iconst (v := nI 1) dMod_holds_43 (by decide) ?_
        refine mj_goto (tgt := 48) dMod_holds_44 (by decide) ?_
        exact next true (by rw [bI_1 hc2]; rfl)
      have hacc := bI_0.mp hc2
      refine mj_aload_n dMod_holds_14 rfl ?_
      refine mj_get dMod_holds_15 fg_Mod_25 rfl ?_
      refine mj_iconst (v := nI 2) dMod_holds_18 (by decide) ?_
      refine mj_iload_n dMod_holds_19 rfl ?_
      refine mj_imul dMod_holds_20 ?_
      rw [show nI 2 * nI c = nI (2 * c) from pk_mul _ _]
      refine mj_baload dMod_holds_21 (by decide) rfl (show _ < 16 by omega) (by decide) ?_
      rw [(v6 (2 * c) (by omega)).1]
      refine mj_if_eq (tgt := 30) dMod_holds_22 (by decide) (fun hc3 => ?_) (fun hc3 => ?_)
      · exact t30 hacc (by rw [bI_0.mp hc3]; rfl)
      refine mj_iload dMod_holds_25 rfl ?_
      refine mj_if_ne (tgt := 47) dMod_holds_27 (by decide) (fun hc4 => ?_) (fun hc4 => ?_)
      · refine mj_iconst (v := nI 0) dMod_holds_47 (by decide) ?_
        have q : ¬ p = 0 := fun z => hc4 (by rw [z]; rfl)
        exact next false (by rw [hacc, bI_1 hc3, show (p == 0) = false from by simpa using q]; rfl)
      · exact t30 hacc (by rw [show (p == 0) = true from by simpa using (nI_eq (b := 0) (by omega) (by omega)).mp hc4, Bool.or_true])
  refine mc_of (L := [_, _, _, _, _, _]) (by decide) (Nat.le_of_ble_eq_true rfl) rfl ?_
  refine mj_iconst (v := nI 0) dMod_holds_0 (by decide) ?_
  refine mj_istore_n (L' := [_, _, _, _, _, _]) dMod_holds_1 (by decide) rfl ?_
  refine mj_iload_n dMod_holds_2 rfl ?_
  refine mj_istore (L' := [_, _, _, _, _, _]) dMod_holds_3 (by decide) rfl ?_
  have z := loop1 (i + 1) false none (Nat.le_refl _) (by rw [Bool.false_or]; rfl)
  rw [show nI (i + 1) - nI 1 = nI i from pk_sub (a := i + 1) (b := 1) (by omega)] at z
  exact z
end MRULE
