/-! The law's loop, and the law from its beginning. -/
theorem nI_15 (a : Int32) : ∃ t, t < 16 ∧ a &&& nI 15 = nI t := by
  refine ⟨(a.toBitVec &&& 15#32).toNat, ?_, ?_⟩
  · rw [BitVec.toNat_and]
    exact Nat.lt_of_le_of_lt Nat.and_le_right (by decide)
  · apply Int32.toBitVec_inj.1
    show a.toBitVec &&& BitVec.ofNat 32 15 = BitVec.ofNat 32 (a.toBitVec &&& 15#32).toNat
    rw [BitVec.ofNat_toNat, BitVec.setWidth_eq]
theorem law_end {N i : Nat} (hN : N < 2 ^ 31) (hi : i < 2 ^ 31) : nI N - nI 5 < nI i ↔ N < i + 5 := by
  by_cases h5 : 5 ≤ N
  · rw [show nI N - nI 5 = nI (N - 5) from pk_sub h5, Int32.lt_iff_toInt_lt, nI_toInt (by omega), nI_toInt hi]
    omega
  · have : ∀ N, N < 5 → (nI N - nI 5).toInt < 0 := by decide
    have h1 := this N (by omega)
    rw [Int32.lt_iff_toInt_lt, nI_toInt hi]
    omega
section LAWL
variable {l : Launch} {G : xG} {mc ms : Nat} {h0 : xH} {x N sr : Nat} {f : Nat → Int32}
theorem law_loop (hro : G.2.2 sr = some (N, f)) (hN : N < 2 ^ 31) : ∀ (j i k n : Nat) (h : xH) (q : xQ) (A : xMA) (μ : xMu) (v5 v6 : Option Value), i + 5 * j ≤ N → N < i + 5 * j + 5 → k + j ≤ mc → n + 6 * j ≤ ms → LI h x q A μ → Ex (l, G, 40, mc, ms, h0, fun o _ => o = rI 1) mLaw_law 23 [some (.ref sr), some (.ref x), some (.ref (x + 97)), some (.ref (x + 130)), some (.int (nI i)), v5, v6] [] h k n := by
  intro j
  induction j with
  | zero =>
    intro i k n h q A μ v5 v6 h1 h2 h3 h4 HI
    refine ex_iload dLaw_law_23 rfl ?_
    refine ex_aload_n dLaw_law_25 rfl ?_
    refine ex_slen dLaw_law_26 hro ?_
    refine ex_iconst (v := nI 5) dLaw_law_27 (by decide) ?_
    refine ex_isub dLaw_law_28 ?_
    refine ex_icmp_gt (tgt := 1106) dLaw_law_29 (by decide) (fun hc => ?_) (fun hc => ?_)
    · refine ex_iconst (v := 1) dLaw_law_1106 (by decide) ?_
      exact ex_zret dLaw_law_1107 rfl (Or.inr rfl) (by show k ≤ mc; omega) (by show n ≤ ms; omega) rfl
    · exact absurd ((law_end hN (by omega)).mpr (by omega)) hc
  | succ j ih =>
    intro i k n h q A μ v5 v6 h1 h2 h3 h4 HI
    have kk : ∀ (h9 : xH) (q9 : xQ) (A9 : xMA) (μ9 : xMu) (w5 w6 : Option Value), LI h9 x q9 A9 μ9 → Ex (l, G, 40, mc, ms, h0, fun o _ => o = rI 1) mLaw_law 1100 [some (.ref sr), some (.ref x), some (.ref (x + 97)), some (.ref (x + 130)), some (.int (nI i)), w5, w6] [] h9 (k + 1) (n + 6) := by
      intro h9 q9 A9 μ9 w5 w6 hI
      refine ex_iinc (L' := [some (.ref sr), some (.ref x), some (.ref (x + 97)), some (.ref (x + 130)), some (.int (nI (i + 5))), w5, w6]) dLaw_law_1100 rfl (nI_add i 5) (by decide) rfl ?_
      refine ex_goto (tgt := 23) dLaw_law_1103 (by decide) ?_
      exact ih (i + 5) (k + 1) (n + 6) h9 q9 A9 μ9 w5 w6 (by omega) (by omega) (by omega) (by omega) hI
    have hi : i + 5 ≤ N := by omega
    have hk : k + 1 ≤ mc := by omega
    have hn : n + 6 ≤ ms := by omega
    refine ex_iload dLaw_law_23 rfl ?_
    refine ex_aload_n dLaw_law_25 rfl ?_
    refine ex_slen dLaw_law_26 hro ?_
    refine ex_iconst (v := nI 5) dLaw_law_27 (by decide) ?_
    refine ex_isub dLaw_law_28 ?_
    refine ex_icmp_gt (tgt := 1106) dLaw_law_29 (by decide) (fun hc => ?_) (fun hc => ?_)
    · exact absurd ((law_end hN (by omega)).mp hc) (by omega)
    refine ex_aload_n dLaw_law_32 rfl ?_
    refine ex_iload dLaw_law_33 rfl ?_
    refine ex_sld dLaw_law_35 hro rfl (by omega) hN ?_
    refine ex_bipush (v := nI 15) dLaw_law_36 (by decide) ?_
    refine ex_iand dLaw_law_38 ?_
    obtain ⟨t, ht, et⟩ := nI_15 (f i)
    refine ex_topi et ?_
    have ht2 : t = 0 ∨ t = 1 ∨ t = 2 ∨ t = 3 ∨ t = 4 ∨ t = 5 ∨ t = 6 ∨ t = 7 ∨ t = 8 ∨ t = 9 ∨ t = 10 ∨ t = 11 ∨ t = 12 ∨ t = 13 ∨ t = 14 ∨ t = 15 := by omega
    clear et ht ih h1 h2 h3 h4
    rcases ht2 with rfl | rfl | rfl | rfl | rfl | rfl | rfl | rfl | rfl | rfl | rfl | rfl | rfl | rfl | rfl | rfl
    · exact ex_tableIn (tgt := 116) dLaw_law_39 (by decide) (by decide) rfl (by decide) (law_pair HI hro hi hN hk hn kk)
    · exact ex_tableIn (tgt := 184) dLaw_law_39 (by decide) (by decide) rfl (by decide) (law_rule HI hro hi hN hk hn kk)
    · exact ex_tableIn (tgt := 252) dLaw_law_39 (by decide) (by decide) rfl (by decide) (law_context HI hro hi hN hk hn kk)
    · exact ex_tableIn (tgt := 364) dLaw_law_39 (by decide) (by decide) rfl (by decide) (law_element HI hro hi hN hk hn kk)
    · exact ex_tableIn (tgt := 488) dLaw_law_39 (by decide) (by decide) rfl (by decide) (law_entry HI hro hi hN hk hn kk)
    · exact ex_tableIn (tgt := 556) dLaw_law_39 (by decide) (by decide) rfl (by decide) (law_spell HI hro hi hN hk hn kk)
    · exact ex_tableIn (tgt := 624) dLaw_law_39 (by decide) (by decide) rfl (by decide) (law_type HI hro hi hN hk hn kk)
    · exact ex_tableIn (tgt := 708) dLaw_law_39 (by decide) (by decide) rfl (by decide) (law_wipe HI hro hi hN hk hn kk)
    · exact ex_tableIn (tgt := 749) dLaw_law_39 (by decide) (by decide) rfl (by decide) (law_belong HI hro hi hN hk hn kk)
    · exact ex_tableIn (tgt := 762) dLaw_law_39 (by decide) (by decide) rfl (by decide) (law_blame HI hro hi hN hk hn kk)
    · exact ex_tableIn (tgt := 775) dLaw_law_39 (by decide) (by decide) rfl (by decide) (law_write HI hro hi hN hk hn kk)
    · exact ex_tableIn (tgt := 819) dLaw_law_39 (by decide) (by decide) rfl (by decide) (law_analyse HI hro hi hN hk hn kk)
    · exact ex_tableIn (tgt := 863) dLaw_law_39 (by decide) (by decide) rfl (by decide) (law_length HI hro hi hN hk hn kk)
    · exact ex_tableIn (tgt := 947) dLaw_law_39 (by decide) (by decide) rfl (by decide) (law_result HI hro hi hN hk hn kk)
    · exact ex_tableIn (tgt := 1043) dLaw_law_39 (by decide) (by decide) rfl (by decide) (law_sample HI hro hi hN hk hn kk)
    · exact ex_tableIn (tgt := 1087) dLaw_law_39 (by decide) (by decide) rfl (by decide) (law_check HI hro hi hN hk hn kk)
theorem rm_zero : Rm (fun _ _ => 0) xm0 := by
  refine ⟨⟨rfl, rfl, fun j hj => absurd hj (Nat.not_lt_zero _), fun j hj => absurd hj (Nat.not_lt_zero _), fun j _ => rfl, fun j _ => ⟨rfl, rfl⟩, fun j _ => ⟨rfl, rfl⟩, by decide, fun z hz => by simp [xm0] at hz, by decide, fun z hz => by simp [xm0] at hz, fun j => by simp [xm0], fun j => by simp [xm0], fun j => by simp [xm0]⟩, ⟨rfl, by decide, fun j hj => absurd hj (Nat.not_lt_zero _), fun j _ => rfl, fun j _ k hk => absurd hk (Nat.not_lt_zero _), fun j => by simp [xm0, esg], fun z hz => by simp [xm0] at hz⟩, ⟨rfl, rfl, fun j hj => absurd hj (Nat.not_lt_zero _), fun j hj => absurd hj (Nat.not_lt_zero _), by decide, by decide, fun i => by simp [xm0], fun i => by simp [xm0]⟩, ⟨rfl, by decide, fun j hj => absurd hj (Nat.not_lt_zero _)⟩, ⟨rfl, fun j hj => absurd hj (Nat.not_lt_zero _), by decide, fun z hz => by simp [xm0] at hz⟩⟩
theorem law_ex {h : xH} (hro : G.2.2 sr = some (N, f)) (hN : N < 2 ^ 31) (hmc : 131 + N / 5 ≤ mc) (hms : 1421 + 6 * (N / 5) ≤ ms) : Ex (l, G, 40, mc, ms, h0, fun o _ => o = rI 1) mLaw_law 0 [some (.ref sr), none, none, none, none, none, none] [] h 0 0 := by
  refine ex_new dLaw_law_0 nw_Law_8 (by show 0 + 1 ≤ mc; omega) (by show 0 + 10 ≤ ms; omega) ?_
  refine ex_dup dLaw_law_3 rfl ?_
  refine ex_i0 dLaw_law_4 ii_Law_58 cd_PW_init ar_PW_init (c_PW_init (d := 0) (x := h.1) rfl (by simp [xnew])) (Nat.le_of_ble_eq_true rfl) (Nat.le_of_ble_eq_true rfl) (by show 0 + 1 + 96 ≤ mc; omega) (by show 0 + 10 + 539 ≤ ms; omega) (fun E h9 q9 => absurd q9.1 (by simp)) (fun v1 h1 hq => ?_)
  obtain ⟨e, hPS, hz1, -⟩ := hq
  cases e
  refine ex_astore_n (L' := [_, _, _, _, _, _, _]) dLaw_law_7 (by decide) rfl ?_
  refine ex_new dLaw_law_8 nw_Law_59 (by show 0 + 1 + 96 + 1 ≤ mc; omega) (by show 0 + 10 + 539 + 42 ≤ ms; omega) ?_
  rw [hz1]
  refine ex_dup dLaw_law_11 rfl ?_
  refine ex_i0 dLaw_law_12 ii_Law_61 cd_Mod_init ar_Mod_init (c_Mod_init (d := 0) (m := h.1 + 97) (by show h1.1 + 1 = _; rw [hz1]) (by simp [xnew, hz1])) (Nat.le_of_ble_eq_true rfl) (Nat.le_of_ble_eq_true rfl) (by show 0 + 1 + 96 + 1 + 32 ≤ mc; omega) (by show 0 + 10 + 539 + 42 + 829 ≤ ms; omega) (fun E h9 q9 => absurd q9.1 (by simp)) (fun v2 h2 hq => ?_)
  obtain ⟨e, hMM, hz2, hb2⟩ := hq
  cases e
  refine ex_astore_n (L' := [_, _, _, _, _, _, _]) dLaw_law_15 (by decide) rfl ?_
  refine ex_iconst (v := nI 1) dLaw_law_16 (by decide) ?_
  refine ex_newl (N := 1) dLaw_law_17 aw_long rfl (by decide) (by show 0 + 1 + 96 + 1 + 32 + 1 ≤ mc; omega) (by show 0 + 10 + 539 + 42 + 829 + 1 ≤ ms; omega) ?_
  rw [hz2]
  refine ex_astore_n (L' := [_, _, _, _, _, _, _]) dLaw_law_19 (by decide) rfl ?_
  refine ex_iconst (v := nI 0) dLaw_law_20 (by decide) ?_
  refine ex_istore (L' := [_, _, _, _, _, _, _]) dLaw_law_21 (by decide) rfl ?_
  refine law_loop hro hN (N / 5) 0 _ _ _ xq0 xm0 (fun _ _ => 0) none none (by omega) (by omega) (by show 0 + 1 + 96 + 1 + 32 + 1 + N / 5 ≤ mc; omega) (by show 0 + 10 + 539 + 42 + 829 + 1 + 6 * (N / 5) ≤ ms; omega) ⟨?_, ?_, rm_zero, zEn.zero, fun i => by simp [xm0], ?_⟩
  · refine hPS.fe (fun p a b => ?_)
    rw [xnew_ne _ (by omega), hb2 p (by omega), xnew_ne _ (by omega)]
  · exact hMM.fe (fun p a b => xnew_ne _ (by omega))
  · exact ⟨fun _ => 0, by simp [xnew, hz2]⟩
end LAWL
