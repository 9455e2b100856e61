/-! The reference: order, put, finish. A result is known by its number, as in the class. -/
def kk (s t c e : Nat) : Nat := ((s * 8 ^ 5 + t * 8 ^ (5 - s)) * 8 + c) * 8 ^ 4 + e * 8 ^ (4 - c)
def dS (k : Nat) : Nat := k / 8 ^ 10
def dC (k : Nat) : Nat := k / 8 ^ 4 % 8
def dT (k : Nat) : Nat := k / 8 ^ 5 % 8 ^ 5 / 8 ^ (5 - dS k)
def dE (k : Nat) : Nat := k % 8 ^ 4 / 8 ^ (4 - dC k)
def VT (k : Nat) : Prop := ∃ s t c e : Nat, s ≤ 5 ∧ t < 8 ^ s ∧ c ≤ 4 ∧ e < 8 ^ c ∧ k = kk s t c e
theorem pw_s {s t : Nat} (hs : s ≤ 5) (ht : t < 8 ^ s) : t * 8 ^ (5 - s) < 8 ^ 5 := by
  have h1 : 8 ^ s * 8 ^ (5 - s) = 8 ^ 5 := by rw [← Nat.pow_add, show s + (5 - s) = 5 by omega]
  calc t * 8 ^ (5 - s) < 8 ^ s * 8 ^ (5 - s) := Nat.mul_lt_mul_of_pos_right ht (Nat.pow_pos (by decide))
    _ = 8 ^ 5 := h1
theorem pw_c {c e : Nat} (hc : c ≤ 4) (he : e < 8 ^ c) : e * 8 ^ (4 - c) < 8 ^ 4 := by
  have h1 : 8 ^ c * 8 ^ (4 - c) = 8 ^ 4 := by rw [← Nat.pow_add, show c + (4 - c) = 4 by omega]
  calc e * 8 ^ (4 - c) < 8 ^ c * 8 ^ (4 - c) := Nat.mul_lt_mul_of_pos_right he (Nat.pow_pos (by decide))
    _ = 8 ^ 4 := h1
theorem kk_d {s t c e : Nat} (hs : s ≤ 5) (ht : t < 8 ^ s) (hc : c ≤ 4) (he : e < 8 ^ c) : dS (kk s t c e) = s ∧ dT (kk s t c e) = t ∧ dC (kk s t c e) = c ∧ dE (kk s t c e) = e := by
  have a1 := pw_s hs ht
  have a2 := pw_c hc he
  have b1 : dS (kk s t c e) = s := by unfold dS kk; omega
  have b3 : dC (kk s t c e) = c := by unfold dC kk; omega
  refine ⟨b1, ?_, b3, ?_⟩
  · unfold dT
    rw [b1, show kk s t c e / 8 ^ 5 % 8 ^ 5 = t * 8 ^ (5 - s) by unfold kk; omega]
    exact Nat.mul_div_cancel _ (Nat.pow_pos (by decide))
  · unfold dE
    rw [b3, show kk s t c e % 8 ^ 4 = e * 8 ^ (4 - c) by unfold kk; omega]
    exact Nat.mul_div_cancel _ (Nat.pow_pos (by decide))
theorem VT.b {k : Nat} (h : VT k) : k < 2 ^ 62 ∧ dS k ≤ 5 ∧ dT k < 2 ^ 15 ∧ dC k ≤ 4 ∧ dE k < 2 ^ 12 ∧ k = kk (dS k) (dT k) (dC k) (dE k) ∧ dT k < 8 ^ dS k ∧ dE k < 8 ^ dC k := by
  obtain ⟨s, t, c, e, hs, ht, hc, he, rfl⟩ := h
  obtain ⟨b1, b2, b3, b4⟩ := kk_d hs ht hc he
  have a1 := pw_s hs ht
  have a2 := pw_c hc he
  have t5 : 8 ^ s ≤ 8 ^ 5 := Nat.pow_le_pow_right (by decide) hs
  have e4 : 8 ^ c ≤ 8 ^ 4 := Nat.pow_le_pow_right (by decide) hc
  rw [b1, b2, b3, b4]
  refine ⟨?_, hs, by omega, hc, by omega, rfl, ht, he⟩
  unfold kk; omega
/-- the order of results is that of their numbers -/
theorem kk_ord {k k' : Nat} (h : VT k) (h' : VT k') : (k < k' ↔ dS k < dS k' ∨ (dS k = dS k' ∧ (dT k < dT k' ∨ (dT k = dT k' ∧ (dC k < dC k' ∨ (dC k = dC k' ∧ dE k < dE k')))))) := by
  obtain ⟨-, b1, b2, b3, b4, b5, b6, b7⟩ := h.b
  obtain ⟨-, c1, c2, c3, c4, c5, c6, c7⟩ := h'.b
  have p1 := pw_s b1 b6
  have p2 := pw_c b3 b7
  have q1 := pw_s c1 c6
  have q2 := pw_c c3 c7
  generalize dS k = s at *
  generalize dT k = t at *
  generalize dC k = c at *
  generalize dE k = e at *
  generalize dS k' = s' at *
  generalize dT k' = t' at *
  generalize dC k' = c' at *
  generalize dE k' = e' at *
  unfold kk at b5 c5
  rcases Nat.lt_trichotomy s s' with z | z | z
  · constructor
    · intro _; exact Or.inl z
    · intro _; omega
  · subst z
    have hp : 0 < 8 ^ (5 - s) := Nat.pow_pos (by decide)
    rcases Nat.lt_trichotomy t t' with y | y | y
    · have : t * 8 ^ (5 - s) + 1 ≤ t' * 8 ^ (5 - s) := Nat.mul_lt_mul_of_pos_right y hp
      constructor
      · intro _; exact Or.inr ⟨rfl, Or.inl y⟩
      · intro _; omega
    · subst y
      rcases Nat.lt_trichotomy c c' with v | v | v
      · constructor
        · intro _; exact Or.inr ⟨rfl, Or.inr ⟨rfl, Or.inl v⟩⟩
        · intro _; omega
      · subst v
        have hq : 0 < 8 ^ (4 - c) := Nat.pow_pos (by decide)
        rcases Nat.lt_trichotomy e e' with x | x | x
        · have : e * 8 ^ (4 - c) + 1 ≤ e' * 8 ^ (4 - c) := Nat.mul_lt_mul_of_pos_right x hq
          constructor
          · intro _; exact Or.inr ⟨rfl, Or.inr ⟨rfl, Or.inr ⟨rfl, x⟩⟩⟩
          · intro _; omega
        · subst x
          constructor
          · intro _; omega
          · intro _; omega
        · have : e' * 8 ^ (4 - c) + 1 ≤ e * 8 ^ (4 - c) := Nat.mul_lt_mul_of_pos_right x hq
          constructor
          · intro _; omega
          · intro _; omega
      · constructor
        · intro _; omega
        · intro _; omega
    · have : t' * 8 ^ (5 - s) + 1 ≤ t * 8 ^ (5 - s) := Nat.mul_lt_mul_of_pos_right y hp
      constructor
      · intro _; omega
      · intro _; omega
  · constructor
    · intro _; omega
    · intro _; omega
/-- record j of the found ones is k -/
def Fk (μ : xMu) (j k : Nat) : Prop := μ 20 j = nI (dS k) ∧ μ 21 j = nI (dT k) ∧ μ 22 j = nI (dC k) ∧ μ 23 j = nI (dE k)
def Fo (μ : xMu) (ks : List Nat) : Prop := μ 0 24 = nI ks.length ∧ (∀ j, j < ks.length → Fk μ j (ks.getD j 0)) ∧ ks.length ≤ 60 ∧ (∀ k ∈ ks, VT k) ∧ ks.Pairwise (· < ·)
def Fp (μ μ' : xMu) : Prop := ∀ a b : Nat, ¬ ((a = 0 ∧ b = 24) ∨ (20 ≤ a ∧ a ≤ 23)) → μ' a b = μ a b
theorem Fp.rf {μ : xMu} : Fp μ μ := fun _ _ _ => rfl
theorem Fp.up {μ μ1 : xMu} {k j : Nat} {v : Int32} (a : Fp μ μ1) (h : (k = 0 ∧ j = 24) ∨ (20 ≤ k ∧ k ≤ 23)) : Fp μ (mup μ1 k j v) := fun x y hn => by
  rw [mup_ne _ _ (by
    by_cases e : x = k
    · by_cases e2 : y = j
      · exact absurd (by rw [e, e2]; exact h) hn
      · exact Or.inr e2
    · exact Or.inl e)]
  exact a x y hn
theorem Fp.pe {μ μ1 : xMu} (a : Fp μ μ1) : Pe μ μ1 := fun x y h => a x y (by omega)
theorem Fk.eq {μ μ' : xMu} {j k : Nat} (H : Fk μ j k) (e : ∀ a, 20 ≤ a → a ≤ 23 → μ' a j = μ a j) : Fk μ' j k := ⟨(e _ (by omega) (by omega)).trans H.1, (e _ (by omega) (by omega)).trans H.2.1, (e _ (by omega) (by omega)).trans H.2.2.1, (e _ (by omega) (by omega)).trans H.2.2.2⟩
theorem sub_pos {a b : Nat} (ha : a < 2 ^ 30) (hb : b < 2 ^ 30) : (nI a - nI b = 0 ↔ a = b) ∧ (0 < nI a - nI b ↔ b < a) := by
  have h := pk_sub_toInt ha hb
  constructor
  · rw [← Int32.toInt_inj, h]
    show (a : Int) - b = 0 ↔ _
    omega
  · rw [Int32.lt_iff_toInt_lt, h]
    show 0 < (a : Int) - b ↔ _
    omega
section MPUT
variable {l : Launch} {G : xG} {d m : Nat} {μ : xMu} {ks : List Nat}
theorem c_Mod_order {i j k k' : Nat} (hi : i < 61) (hj : j < 61) (hk : VT k) (hk' : VT k') (H : Fk μ i k) (H' : Fk μ j k') : Mc l G mMod_order d m [.ref m, .int (nI i), .int (nI j)] μ (fun o μ' => ∃ v : Int32, o = rI v ∧ (v = 0 ↔ k = k') ∧ (0 < v ↔ k' < k) ∧ μ' = μ) := by
  obtain ⟨h1, h2, h3, h4⟩ := H
  obtain ⟨g1, g2, g3, g4⟩ := H'
  obtain ⟨-, b1, b2, b3, b4, b5, -⟩ := hk.b
  obtain ⟨-, c1, c2, c3, c4, c5, -⟩ := hk'.b
  have ord := kk_ord hk hk'
  have ord' := kk_ord hk' hk
  have heq : k = k' ↔ dS k = dS k' ∧ dT k = dT k' ∧ dC k = dC k' ∧ dE k = dE k' := ⟨fun z => by rw [z]; exact ⟨rfl, rfl, rfl, rfl⟩, fun z => by rw [b5, c5, z.1, z.2.1, z.2.2.1, z.2.2.2]⟩
  have s1 := sub_pos (a := dS k) (b := dS k') (by omega) (by omega)
  have s2 := sub_pos (a := dT k) (b := dT k') (by omega) (by omega)
  have s3 := sub_pos (a := dC k) (b := dC k') (by omega) (by omega)
  have s4 := sub_pos (a := dE k) (b := dE k') (by omega) (by omega)
  have fin : ∀ (v : Int32) y, (v = 0 ↔ k = k') → (0 < v ↔ k' < k) → Mj (l, G, d, m, fun o μ' => ∃ v : Int32, o = rI v ∧ (v = 0 ↔ k = k') ∧ (0 < v ↔ k' < k) ∧ μ' = μ) mMod_order 79 [some (.ref m), some (.int (nI i)), some (.int (nI j)), y] [.int v] μ := fun v y e1 e2 => mj_iret dMod_order_79 rfl ⟨v, rfl, e1, e2, rfl⟩
  have t57 : ∀ (v : Int32) y, ((v = 0 ↔ dS k = dS k' ∧ dT k = dT k' ∧ dC k = dC k') ∧ (0 < v ↔ dS k' < dS k ∨ (dS k' = dS k ∧ (dT k' < dT k ∨ (dT k' = dT k ∧ dC k' < dC k))))) → Mj (l, G, d, m, fun o μ' => ∃ v : Int32, o = rI v ∧ (v = 0 ↔ k = k') ∧ (0 < v ↔ k' < k) ∧ μ' = μ) mMod_order 57 [some (.ref m), some (.int (nI i)), some (.int (nI j)), y] [.int v] μ := by
    intro v y hv
    refine mj_istore_n (L' := [_, _, _, _]) dMod_order_57 (by decide) rfl ?_
    refine mj_iload_n dMod_order_58 rfl ?_
    refine mj_if_ne (tgt := 78) dMod_order_59 (by decide) (fun hc => ?_) (fun hc => ?_)
    · have z : ¬ (dS k = dS k' ∧ dT k = dT k' ∧ dC k = dC k') := fun z => hc (hv.1.mpr z)
      refine mj_iload_n dMod_order_78 rfl ?_
      exact fin v _ (by rw [heq]; exact ⟨fun q => absurd q hc, fun q => absurd ⟨q.1, q.2.1, q.2.2.1⟩ z⟩) (by rw [ord', hv.2]; omega)
    have z := hv.1.mp hc
    refine mj_aload_n dMod_order_62 rfl ?_
    refine mj_get dMod_order_63 fg_Mod_77 rfl ?_
    refine mj_iload_n dMod_order_66 rfl ?_
    refine mj_iaload dMod_order_67 (by decide) rfl (show _ < 61 by omega) (by decide) ?_
    refine mj_aload_n dMod_order_68 rfl ?_
    refine mj_get dMod_order_69 fg_Mod_77 rfl ?_
    refine mj_iload_n dMod_order_72 rfl ?_
    refine mj_iaload dMod_order_73 (by decide) rfl (show _ < 61 by omega) (by decide) ?_
    rw [h4, g4]
    refine mj_isub dMod_order_74 ?_
    refine mj_goto (tgt := 79) dMod_order_75 (by decide) ?_
    exact fin _ _ (by rw [heq, s4.1]; omega) (by rw [ord', s4.2]; omega)
  have t35 : ∀ (v : Int32) y, ((v = 0 ↔ dS k = dS k' ∧ dT k = dT k') ∧ (0 < v ↔ dS k' < dS k ∨ (dS k' = dS k ∧ dT k' < dT k))) → Mj (l, G, d, m, fun o μ' => ∃ v : Int32, o = rI v ∧ (v = 0 ↔ k = k') ∧ (0 < v ↔ k' < k) ∧ μ' = μ) mMod_order 35 [some (.ref m), some (.int (nI i)), some (.int (nI j)), y] [.int v] μ := by
    intro v y hv
    refine mj_istore_n (L' := [_, _, _, _]) dMod_order_35 (by decide) rfl ?_
    refine mj_iload_n dMod_order_36 rfl ?_
    refine mj_if_ne (tgt := 56) dMod_order_37 (by decide) (fun hc => ?_) (fun hc => ?_)
    · have z : ¬ (dS k = dS k' ∧ dT k = dT k') := fun z => hc (hv.1.mpr z)
      refine mj_iload_n dMod_order_56 rfl ?_
      exact t57 v _ ⟨⟨fun q => absurd q hc, fun q => absurd ⟨q.1, q.2.1⟩ z⟩, by rw [hv.2]; omega⟩
    have z := hv.1.mp hc
    refine mj_aload_n dMod_order_40 rfl ?_
    refine mj_get dMod_order_41 fg_Mod_74 rfl ?_
    refine mj_iload_n dMod_order_44 rfl ?_
    refine mj_iaload dMod_order_45 (by decide) rfl (show _ < 61 by omega) (by decide) ?_
    refine mj_aload_n dMod_order_46 rfl ?_
    refine mj_get dMod_order_47 fg_Mod_74 rfl ?_
    refine mj_iload_n dMod_order_50 rfl ?_
    refine mj_iaload dMod_order_51 (by decide) rfl (show _ < 61 by omega) (by decide) ?_
    rw [h3, g3]
    refine mj_isub dMod_order_52 ?_
    refine mj_goto (tgt := 57) dMod_order_53 (by decide) ?_
    exact t57 _ _ ⟨by rw [s3.1]; omega, by rw [s3.2]; omega⟩
  refine mc_of (L := [_, _, _, _]) (by decide) (Nat.le_of_ble_eq_true rfl) rfl ?_
  refine mj_aload_n dMod_order_0 rfl ?_
  refine mj_get dMod_order_1 fg_Mod_68 rfl ?_
  refine mj_iload_n dMod_order_4 rfl ?_
  refine mj_iaload dMod_order_5 (by decide) rfl (show _ < 61 by omega) (by decide) ?_
  refine mj_aload_n dMod_order_6 rfl ?_
  refine mj_get dMod_order_7 fg_Mod_68 rfl ?_
  refine mj_iload_n dMod_order_10 rfl ?_
  refine mj_iaload dMod_order_11 (by decide) rfl (show _ < 61 by omega) (by decide) ?_
  rw [h1, g1]
  refine mj_isub dMod_order_12 ?_
  refine mj_istore_n (L' := [_, _, _, _]) dMod_order_13 (by decide) rfl ?_
  refine mj_iload_n dMod_order_14 rfl ?_
  refine mj_if_ne (tgt := 34) dMod_order_15 (by decide) (fun hc => ?_) (fun hc => ?_)
  · have z : ¬ dS k = dS k' := fun z => hc (s1.1.mpr z)
    refine mj_iload_n dMod_order_34 rfl ?_
    exact t35 _ _ ⟨⟨fun q => absurd q hc, fun q => absurd q.1 z⟩, by rw [s1.2]; omega⟩
  have z := s1.1.mp hc
  refine mj_aload_n dMod_order_18 rfl ?_
  refine mj_get dMod_order_19 fg_Mod_71 rfl ?_
  refine mj_iload_n dMod_order_22 rfl ?_
  refine mj_iaload dMod_order_23 (by decide) rfl (show _ < 61 by omega) (by decide) ?_
  refine mj_aload_n dMod_order_24 rfl ?_
  refine mj_get dMod_order_25 fg_Mod_71 rfl ?_
  refine mj_iload_n dMod_order_28 rfl ?_
  refine mj_iaload dMod_order_29 (by decide) rfl (show _ < 61 by omega) (by decide) ?_
  rw [h2, g2]
  refine mj_isub dMod_order_30 ?_
  refine mj_goto (tgt := 35) dMod_order_31 (by decide) ?_
  exact t35 _ _ ⟨by rw [s2.1]; omega, by rw [s2.2]; omega⟩
theorem c_Mod_put {k : Nat} (hk : VT k) (H : Fo μ ks) (HK : Fk μ ks.length k) : Mc l G mMod_put (d + 1) m [.ref m] μ (fun o μ' => o = rI (bI (!(radd (ks, false) k).2)) ∧ Fo μ' (radd (ks, false) k).1 ∧ Fp μ μ') := by
  have H0 := H
  obtain ⟨f1, f2, f3, f4, f5⟩ := H
  have shift : ∀ (z at_ i : Nat) (μ1 : xMu), at_ + z = i → i ≤ ks.length → ks.length < 60 → k ∉ ks → (∀ j, j < at_ → ks.getD j 0 < k) → (∀ j, at_ ≤ j → j < ks.length → k < ks.getD j 0) → μ1 0 24 = nI ks.length → (∀ j, j < i → Fk μ1 j (ks.getD j 0)) → (∀ j, i < j → j ≤ ks.length → Fk μ1 j (ks.getD (j - 1) 0)) → Fp μ μ1 → Mj (l, G, d + 1, m, fun o μ' => o = rI (bI (!(radd (ks, false) k).2)) ∧ Fo μ' (radd (ks, false) k).1 ∧ Fp μ μ') mMod_put 107 [some (.ref m), some (.int (nI (at_))), some (.int (nI (dS k))), some (.int (nI (dT k))), some (.int (nI (dC k))), some (.int (nI (dE k))), some (.int (nI (i)))] [] μ1 := by
    intro z
    induction z with
    | zero =>
      intro at_ i μ1 hz hin hlt hnk ha hb e1 e3 e4 hS
      have e : i = at_ := by omega
      subst e
      refine mj_iload dMod_put_107 rfl ?_
      refine mj_iload_n dMod_put_109 rfl ?_
      refine mj_icmp_le (tgt := 183) dMod_put_110 (by decide) (fun hc => ?_) (fun hc => ?_)
      · refine mj_aload_n dMod_put_183 rfl ?_
        refine mj_get dMod_put_184 fg_Mod_68 rfl ?_
        refine mj_iload_n dMod_put_187 rfl ?_
        refine mj_iload_n dMod_put_188 rfl ?_
        refine mj_iastore dMod_put_189 (by decide) rfl (show _ < 61 by omega) (by decide) ?_
        refine mj_aload_n dMod_put_190 rfl ?_
        refine mj_get dMod_put_191 fg_Mod_71 rfl ?_
        refine mj_iload_n dMod_put_194 rfl ?_
        refine mj_iload_n dMod_put_195 rfl ?_
        refine mj_iastore dMod_put_196 (by decide) rfl (show _ < 61 by omega) (by decide) ?_
        refine mj_aload_n dMod_put_197 rfl ?_
        refine mj_get dMod_put_198 fg_Mod_74 rfl ?_
        refine mj_iload_n dMod_put_201 rfl ?_
        refine mj_iload dMod_put_202 rfl ?_
        refine mj_iastore dMod_put_204 (by decide) rfl (show _ < 61 by omega) (by decide) ?_
        refine mj_aload_n dMod_put_205 rfl ?_
        refine mj_get dMod_put_206 fg_Mod_77 rfl ?_
        refine mj_iload_n dMod_put_209 rfl ?_
        refine mj_iload dMod_put_210 rfl ?_
        refine mj_iastore dMod_put_212 (by decide) rfl (show _ < 61 by omega) (by decide) ?_
        refine mj_aload_n dMod_put_213 rfl ?_
        refine mj_dup dMod_put_214 rfl ?_
        refine mj_get dMod_put_215 fg_Mod_181 rfl ?_
        refine mj_iconst (v := nI 1) dMod_put_218 (by decide) ?_
        rw [show mup (mup (mup (mup μ1 20 i (nI (dS k))) 21 i (nI (dT k))) 22 i (nI (dC k))) 23 i (nI (dE k)) 0 24 = nI ks.length from by rw [mup_k _ _ (by decide), mup_k _ _ (by decide), mup_k _ _ (by decide), mup_k _ _ (by decide)]; exact e1]
        refine mj_iadd dMod_put_219 ?_
        rw [show nI ks.length + nI 1 = nI (ks.length + 1) from nI_add _ _]
        refine mj_put dMod_put_220 (fp_Mod_181 _) (by decide) ?_
        refine mj_iconst (v := nI 1) dMod_put_223 (by decide) ?_
        have hr : radd (ks, false) k = (ins k ks, false) := by unfold radd; rw [if_neg hnk, if_neg (by show ¬ 60 ≤ ks.length; omega)]
        refine mj_zret dMod_put_224 rfl (by decide) ⟨by rw [hr]; rfl, ?_, ((((hS.up (by omega)).up (by omega)).up (by omega)).up (by omega)).up (by omega)⟩
        rw [hr]
        refine ⟨by rw [mup_s, ins_len], fun j hj => ?_, by rw [ins_len]; omega, fun q hq => ?_, ins_sorted f5 hnk⟩
        · rw [ins_len] at hj
          have hsp := ins_split ks i (by omega) ha hb
          dsimp only
          rw [hsp]
          by_cases e : j = i
          · subst e
            have hg : (ks.take j ++ k :: ks.drop j).getD j 0 = k := by
              rw [List.getD_eq_getElem?_getD, List.getElem?_append_right (by simp [List.length_take]; omega)]
              simp [List.length_take, Nat.min_eq_left hin]
            rw [hg]
            refine ⟨?_, ?_, ?_, ?_⟩
            · rw [mup_k _ _ (by decide), mup_k _ _ (by decide), mup_k _ _ (by decide), mup_k _ _ (by decide), mup_s]
            · rw [mup_k _ _ (by decide), mup_k _ _ (by decide), mup_k _ _ (by decide), mup_s]
            · rw [mup_k _ _ (by decide), mup_k _ _ (by decide), mup_s]
            · rw [mup_k _ _ (by decide), mup_s]
          · have hun : ∀ a, 20 ≤ a → a ≤ 23 → mup (mup (mup (mup (mup μ1 20 i (nI (dS k))) 21 i (nI (dT k))) 22 i (nI (dC k))) 23 i (nI (dE k))) 0 24 (nI (ks.length + 1)) a j = μ1 a j := fun a _ _ => by
              rw [mup_ne _ _ (Or.inl (by omega)), mup_ne _ _ (Or.inr e), mup_ne _ _ (Or.inr e), mup_ne _ _ (Or.inr e), mup_ne _ _ (Or.inr e)]
            by_cases hji : j < i
            · have hg : (ks.take i ++ k :: ks.drop i).getD j 0 = ks.getD j 0 := by
                rw [List.getD_eq_getElem?_getD, List.getD_eq_getElem?_getD, List.getElem?_append_left (by rw [List.length_take]; omega), List.getElem?_take_of_lt hji]
              rw [hg]; exact (e3 j hji).eq hun
            · have hg : (ks.take i ++ k :: ks.drop i).getD j 0 = ks.getD (j - 1) 0 := by
                rw [List.getD_eq_getElem?_getD, List.getD_eq_getElem?_getD, List.getElem?_append_right (by rw [List.length_take]; omega), List.length_take, Nat.min_eq_left hin, show j - i = (j - 1 - i) + 1 by omega, List.getElem?_cons_succ, List.getElem?_drop, show i + (j - 1 - i) = j - 1 by omega]
              rw [hg]; exact (e4 j (by omega) (by omega)).eq hun
        · rcases ins_mem.mp hq with rfl | q1
          · exact hk
          · exact f4 q q1
      · exact absurd (nI_le (by omega) (by omega)) hc
    | succ z ih =>
      intro at_ i μ1 hz hin hlt hnk ha hb e1 e3 e4 hS
      have ei := e3 (i - 1) (by omega)
      refine mj_iload dMod_put_107 rfl ?_
      refine mj_iload_n dMod_put_109 rfl ?_
      refine mj_icmp_le (tgt := 183) dMod_put_110 (by decide) (fun hc => ?_) (fun hc => ?_)
      · exact absurd hc (nI_ge (by omega) (by omega))
      refine mj_aload_n dMod_put_113 rfl ?_
      refine mj_get dMod_put_114 fg_Mod_68 rfl ?_
      refine mj_iload dMod_put_117 rfl ?_
      refine mj_aload_n dMod_put_119 rfl ?_
      refine mj_get dMod_put_120 fg_Mod_68 rfl ?_
      refine mj_iload dMod_put_123 rfl ?_
      refine mj_iconst (v := nI 1) dMod_put_125 (by decide) ?_
      refine mj_isub dMod_put_126 ?_
      rw [show nI i - nI 1 = nI (i - 1) from pk_sub (by omega)]
      refine mj_iaload dMod_put_127 (by decide) rfl (show _ < 61 by omega) (by decide) ?_
      refine mj_iastore dMod_put_128 (by decide) rfl (show _ < 61 by omega) (by decide) ?_
      refine mj_aload_n dMod_put_129 rfl ?_
      refine mj_get dMod_put_130 fg_Mod_71 rfl ?_
      refine mj_iload dMod_put_133 rfl ?_
      refine mj_aload_n dMod_put_135 rfl ?_
      refine mj_get dMod_put_136 fg_Mod_71 rfl ?_
      refine mj_iload dMod_put_139 rfl ?_
      refine mj_iconst (v := nI 1) dMod_put_141 (by decide) ?_
      refine mj_isub dMod_put_142 ?_
      rw [show nI i - nI 1 = nI (i - 1) from pk_sub (by omega)]
      refine mj_iaload dMod_put_143 (by decide) rfl (show _ < 61 by omega) (by decide) ?_
      refine mj_iastore dMod_put_144 (by decide) rfl (show _ < 61 by omega) (by decide) ?_
      refine mj_aload_n dMod_put_145 rfl ?_
      refine mj_get dMod_put_146 fg_Mod_74 rfl ?_
      refine mj_iload dMod_put_149 rfl ?_
      refine mj_aload_n dMod_put_151 rfl ?_
      refine mj_get dMod_put_152 fg_Mod_74 rfl ?_
      refine mj_iload dMod_put_155 rfl ?_
      refine mj_iconst (v := nI 1) dMod_put_157 (by decide) ?_
      refine mj_isub dMod_put_158 ?_
      rw [show nI i - nI 1 = nI (i - 1) from pk_sub (by omega)]
      refine mj_iaload dMod_put_159 (by decide) rfl (show _ < 61 by omega) (by decide) ?_
      refine mj_iastore dMod_put_160 (by decide) rfl (show _ < 61 by omega) (by decide) ?_
      refine mj_aload_n dMod_put_161 rfl ?_
      refine mj_get dMod_put_162 fg_Mod_77 rfl ?_
      refine mj_iload dMod_put_165 rfl ?_
      refine mj_aload_n dMod_put_167 rfl ?_
      refine mj_get dMod_put_168 fg_Mod_77 rfl ?_
      refine mj_iload dMod_put_171 rfl ?_
      refine mj_iconst (v := nI 1) dMod_put_173 (by decide) ?_
      refine mj_isub dMod_put_174 ?_
      rw [show nI i - nI 1 = nI (i - 1) from pk_sub (by omega)]
      refine mj_iaload dMod_put_175 (by decide) rfl (show _ < 61 by omega) (by decide) ?_
      refine mj_iastore dMod_put_176 (by decide) rfl (show _ < 61 by omega) (by decide) ?_
      refine mj_iinc (L' := [_, _, _, _, _, _, _]) dMod_put_177 rfl rfl (by decide) rfl ?_
      refine mj_goto (tgt := 107) dMod_put_180 (by decide) ?_
      rw [show nI i + Int32.ofInt (-1) = nI (i - 1) from by rw [show Int32.ofInt (-1) = -nI 1 from by decide, ← Int32.sub_eq_add_neg, pk_sub (by omega)]]
      rw [show mup μ1 20 i (μ1 20 (i - 1)) 21 (i - 1) = μ1 21 (i - 1) from mup_k _ _ (by decide)]
      rw [show mup (mup μ1 20 i (μ1 20 (i - 1))) 21 i (μ1 21 (i - 1)) 22 (i - 1) = μ1 22 (i - 1) from by rw [mup_k _ _ (by decide), mup_k _ _ (by decide)]]
      rw [show mup (mup (mup μ1 20 i (μ1 20 (i - 1))) 21 i (μ1 21 (i - 1))) 22 i (μ1 22 (i - 1)) 23 (i - 1) = μ1 23 (i - 1) from by rw [mup_k _ _ (by decide), mup_k _ _ (by decide), mup_k _ _ (by decide)]]
      have hun : ∀ a j, j ≠ i → mup (mup (mup (mup μ1 20 i (μ1 20 (i - 1))) 21 i (μ1 21 (i - 1))) 22 i (μ1 22 (i - 1))) 23 i (μ1 23 (i - 1)) a j = μ1 a j := fun a j e => by
        rw [mup_ne _ _ (Or.inr e), mup_ne _ _ (Or.inr e), mup_ne _ _ (Or.inr e), mup_ne _ _ (Or.inr e)]
      refine ih at_ (i - 1) _ (by omega) (by omega) hlt hnk ha hb (by rw [mup_k _ _ (by decide), mup_k _ _ (by decide), mup_k _ _ (by decide), mup_k _ _ (by decide)]; exact e1) (fun j hj => (e3 j (by omega)).eq (fun a _ _ => hun a j (by omega))) (fun j hj hl => ?_) ((((hS.up (by omega)).up (by omega)).up (by omega)).up (by omega))
      by_cases e : j = i
      · subst e
        obtain ⟨x1, x2, x3, x4⟩ := ei
        refine ⟨?_, ?_, ?_, ?_⟩
        · rw [mup_k _ _ (by decide), mup_k _ _ (by decide), mup_k _ _ (by decide), mup_s]; exact x1
        · rw [mup_k _ _ (by decide), mup_k _ _ (by decide), mup_s]; exact x2
        · rw [mup_k _ _ (by decide), mup_s]; exact x3
        · rw [mup_s]; exact x4
      · exact (e4 j (by omega) hl).eq (fun a _ _ => hun a j e)
  have t48 : ∀ (at_ : Nat) x2 x3 x4 x5 x6, at_ ≤ ks.length → k ∉ ks → (∀ j, j < at_ → ks.getD j 0 < k) → (∀ j, at_ ≤ j → j < ks.length → k < ks.getD j 0) → Mj (l, G, d + 1, m, fun o μ' => o = rI (bI (!(radd (ks, false) k).2)) ∧ Fo μ' (radd (ks, false) k).1 ∧ Fp μ μ') mMod_put 48 [some (.ref m), some (.int (nI (at_))), x2, x3, x4, x5, x6] [] μ := by
    intro at_ x2 x3 x4 x5 x6 hat hnk ha hb
    refine mj_aload_n dMod_put_48 rfl ?_
    refine mj_get dMod_put_49 fg_Mod_181 rfl ?_
    refine mj_bipush (v := nI 60) dMod_put_52 (by decide) ?_
    rw [f1]
    refine mj_icmp_ne (tgt := 59) dMod_put_54 (by decide) (fun hc => ?_) (fun hc => ?_)
    · have hlt : ks.length < 60 := by
        have : ks.length ≠ 60 := fun z => hc (by rw [z])
        omega
      refine mj_aload_n dMod_put_59 rfl ?_
      refine mj_get dMod_put_60 fg_Mod_68 rfl ?_
      refine mj_aload_n dMod_put_63 rfl ?_
      refine mj_get dMod_put_64 fg_Mod_181 rfl ?_
      refine mj_iaload dMod_put_67 (by decide) f1 (show _ < 61 by omega) (by decide) ?_
      rw [HK.1]
      refine mj_istore_n (L' := [_, _, _, _, _, _, _]) dMod_put_68 (by decide) rfl ?_
      refine mj_aload_n dMod_put_69 rfl ?_
      refine mj_get dMod_put_70 fg_Mod_71 rfl ?_
      refine mj_aload_n dMod_put_73 rfl ?_
      refine mj_get dMod_put_74 fg_Mod_181 rfl ?_
      refine mj_iaload dMod_put_77 (by decide) f1 (show _ < 61 by omega) (by decide) ?_
      rw [HK.2.1]
      refine mj_istore_n (L' := [_, _, _, _, _, _, _]) dMod_put_78 (by decide) rfl ?_
      refine mj_aload_n dMod_put_79 rfl ?_
      refine mj_get dMod_put_80 fg_Mod_74 rfl ?_
      refine mj_aload_n dMod_put_83 rfl ?_
      refine mj_get dMod_put_84 fg_Mod_181 rfl ?_
      refine mj_iaload dMod_put_87 (by decide) f1 (show _ < 61 by omega) (by decide) ?_
      rw [HK.2.2.1]
      refine mj_istore (L' := [_, _, _, _, _, _, _]) dMod_put_88 (by decide) rfl ?_
      refine mj_aload_n dMod_put_90 rfl ?_
      refine mj_get dMod_put_91 fg_Mod_77 rfl ?_
      refine mj_aload_n dMod_put_94 rfl ?_
      refine mj_get dMod_put_95 fg_Mod_181 rfl ?_
      refine mj_iaload dMod_put_98 (by decide) f1 (show _ < 61 by omega) (by decide) ?_
      rw [HK.2.2.2]
      refine mj_istore (L' := [_, _, _, _, _, _, _]) dMod_put_99 (by decide) rfl ?_
      refine mj_aload_n dMod_put_101 rfl ?_
      refine mj_get dMod_put_102 fg_Mod_181 rfl ?_
      rw [f1]
      refine mj_istore (L' := [_, _, _, _, _, _, _]) dMod_put_105 (by decide) rfl ?_
      exact shift (ks.length - at_) at_ ks.length μ (by omega) (Nat.le_refl _) hlt hnk ha hb f1 f2 (fun j h1 h2 => by omega) Fp.rf
    have h60 : ks.length = 60 := (nI_eq (by omega) (by omega)).mp hc
    refine mj_iconst (v := nI 0) dMod_put_57 (by decide) ?_
    have hr : radd (ks, false) k = (ks, true) := by unfold radd; rw [if_neg hnk, if_pos (by show 60 ≤ ks.length; omega)]
    exact mj_zret dMod_put_58 rfl (by decide) ⟨by rw [hr]; rfl, by rw [hr]; exact H0, Fp.rf⟩
  have loop : ∀ (p at_ : Nat) x3 x4 x5 x6, p ≤ at_ → at_ ≤ ks.length → (∀ j, p ≤ j → j < at_ → ks.getD j 0 < k) → (∀ j, at_ ≤ j → j < ks.length → k < ks.getD j 0) → Mj (l, G, d + 1, m, fun o μ' => o = rI (bI (!(radd (ks, false) k).2)) ∧ Fo μ' (radd (ks, false) k).1 ∧ Fp μ μ') mMod_put 12 [some (.ref m), some (.int (nI (at_))), some (.int (nI p - nI 1)), x3, x4, x5, x6] [] μ := by
    intro p
    induction p with
    | zero =>
      intro at_ x3 x4 x5 x6 hpa hat ha hb
      refine mj_iload_n dMod_put_12 rfl ?_
      refine mj_if_lt (tgt := 48) dMod_put_13 (by decide) (fun hc => ?_) (fun hc => ?_)
      · refine t48 at_ _ _ _ _ _ hat (fun q => ?_) (fun j hj => ha j (by omega) hj) hb
        obtain ⟨j, hj, e⟩ := List.getElem_of_mem q
        have ej : ks.getD j 0 = k := by rw [List.getD_eq_getElem?_getD, List.getElem?_eq_getElem hj, Option.getD_some, e]
        rcases Nat.lt_or_ge j at_ with z | z
        · have := ha j (by omega) z; omega
        · have := hb j z hj; omega
      · exact absurd (by decide) hc
    | succ p ih =>
      intro at_ x3 x4 x5 x6 hpa hat ha hb
      rw [show nI (p + 1) - nI 1 = nI p from pk_sub (a := p + 1) (b := 1) (by omega)]
      refine mj_iload_n dMod_put_12 rfl ?_
      refine mj_if_lt (tgt := 48) dMod_put_13 (by decide) (fun hc => ?_) (fun hc => ?_)
      · exact absurd hc (nI_pos (by omega))
      refine mj_aload_n dMod_put_16 rfl ?_
      refine mj_iload_n dMod_put_17 rfl ?_
      refine mj_aload_n dMod_put_18 rfl ?_
      refine mj_get dMod_put_19 fg_Mod_181 rfl ?_
      rw [f1]
      refine mj_p2 dMod_put_22 ip_Mod_184 cd_Mod_order ar_Mod_order (c_Mod_order (d := d) (i := p) (j := ks.length) (k := ks.getD p 0) (k' := k) (by omega) (by omega) (f4 _ (getD_mem (by omega))) hk (f2 p (by omega)) HK) (by dsimp only; omega) (Nat.le_of_ble_eq_true rfl) (fun E m9 q9 => by obtain ⟨v, q9, -⟩ := q9; simp at q9) (fun v9 μ9 hq => ?_)
      obtain ⟨v, e, o1, o2, e1⟩ := hq
      cases e
      rw [e1]
      refine mj_istore_n (L' := [_, _, _, _, _, _, _]) dMod_put_25 (by decide) rfl ?_
      refine mj_iload_n dMod_put_26 rfl ?_
      refine mj_if_ne (tgt := 32) dMod_put_27 (by decide) (fun hc2 => ?_) (fun hc2 => ?_)
      rotate_left
      · have hm : k ∈ ks := by rw [← o1.mp hc2]; exact getD_mem (by omega)
        have hr : radd (ks, false) k = (ks, false) := by unfold radd; rw [if_pos hm]
        refine mj_iconst (v := nI 1) dMod_put_30 (by decide) ?_
        exact mj_zret dMod_put_31 rfl (by decide) ⟨by rw [hr]; rfl, by rw [hr]; exact H0, Fp.rf⟩
      have hne : ¬ ks.getD p 0 = k := fun z => hc2 (o1.mpr z)
      have next : ∀ at2 : Nat, p ≤ at2 → at2 ≤ ks.length → (∀ j, p ≤ j → j < at2 → ks.getD j 0 < k) → (∀ j, at2 ≤ j → j < ks.length → k < ks.getD j 0) → Mj (l, G, d + 1, m, fun o μ' => o = rI (bI (!(radd (ks, false) k).2)) ∧ Fo μ' (radd (ks, false) k).1 ∧ Fp μ μ') mMod_put 41 [some (.ref m), some (.int (nI (at_))), some (.int (nI (p))), some (.int v), x4, x5, x6] [.int (nI at2)] μ := by
        intro at2 h1 h2 h3 h4
        refine mj_istore_n (L' := [_, _, _, _, _, _, _]) dMod_put_41 (by decide) rfl ?_
        refine mj_iinc (L' := [_, _, _, _, _, _, _]) dMod_put_42 rfl rfl (by decide) rfl ?_
        refine mj_goto (tgt := 12) dMod_put_45 (by decide) ?_
        rw [show nI p + Int32.ofInt (-1) = nI p - nI 1 from by rw [show Int32.ofInt (-1) = -nI 1 from by decide, ← Int32.sub_eq_add_neg]]
        exact ih at2 _ _ _ _ h1 h2 h3 h4
      refine mj_iload_n dMod_put_32 rfl ?_
      refine mj_if_le (tgt := 40) dMod_put_33 (by decide) (fun hc3 => ?_) (fun hc3 => ?_)
      · have hle : ¬ k < ks.getD p 0 := fun z => absurd (o2.mpr z) (by rw [Int32.lt_iff_toInt_lt]; rw [le0] at hc3; show ¬ (0 : Int) < v.toInt; omega)
        refine mj_iload_n dMod_put_40 rfl ?_
        refine next at_ (by omega) hat (fun j h1 h2 => ?_) hb
        by_cases e : j = p
        · rw [e]; omega
        · exact ha j (by omega) h2
      · have hgt : k < ks.getD p 0 := o2.mp (by rw [Int32.lt_iff_toInt_lt]; rw [le0] at hc3; show (0 : Int) < v.toInt; omega)
        refine mj_iload_n dMod_put_36 rfl ?_
        refine mj_goto (tgt := 41) dMod_put_37 (by decide) ?_
        refine next p (Nat.le_refl _) (by omega) (fun j h1 h2 => by omega) (fun j h1 h2 => ?_)
        by_cases e : j = p
        · rw [e]; exact hgt
        · have := sorted_get f5 (show p < j by omega) h2; omega
  refine mc_of (L := [_, _, _, _, _, _, _]) (by decide) (Nat.le_of_ble_eq_true rfl) rfl ?_
  refine mj_aload_n dMod_put_0 rfl ?_
  refine mj_get dMod_put_1 fg_Mod_181 rfl ?_
  rw [f1]
  refine mj_istore_n (L' := [_, _, _, _, _, _, _]) dMod_put_4 (by decide) rfl ?_
  refine mj_aload_n dMod_put_5 rfl ?_
  refine mj_get dMod_put_6 fg_Mod_181 rfl ?_
  rw [f1]
  refine mj_iconst (v := nI 1) dMod_put_9 (by decide) ?_
  refine mj_isub dMod_put_10 ?_
  refine mj_istore_n (L' := [_, _, _, _, _, _, _]) dMod_put_11 (by decide) rfl ?_
  exact loop ks.length ks.length _ _ _ _ (Nat.le_refl _) (Nat.le_refl _) (fun j h1 h2 => by omega) (fun j h1 h2 => by omega)
end MPUT
