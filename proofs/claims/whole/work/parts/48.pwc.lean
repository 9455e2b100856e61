/-! PairedWords: write, analyse, length, result. -/
def VK (k : Nat) : Prop := ∃ (w : List Nat) (es : Nat → Nat) (n : Nat), w.length ≤ 5 ∧ (∀ i, w.getD i 0 < 8) ∧ n ≤ 4 ∧ (∀ i, i < n → es i < 8) ∧ k = rkey w es n
theorem rdig_len {w : List Nat} {es : Nat → Nat} {n : Nat} (h1 : w.length ≤ 5) (h2 : ∀ i, w.getD i 0 < 8) (h3 : n ≤ 4) (h4 : ∀ i, i < n → es i < 8) : rdig (rkey w es n) 0 = w.length ∧ rdig (rkey w es n) 6 = n := by
  have b : ∀ i, (if i < n then es i else 0) < 8 := fun i => by split; exact h4 i (by assumption); omega
  have a0 := h2 0; have a1 := h2 1; have a2 := h2 2; have a3 := h2 3; have a4 := h2 4
  have b0 := b 0; have b1 := b 1; have b2 := b 2; have b3 := b 3
  simp only [rkey, kcat, rdig]
  generalize w.getD 0 0 = c0 at *; generalize w.getD 1 0 = c1 at *; generalize w.getD 2 0 = c2 at *; generalize w.getD 3 0 = c3 at *; generalize w.getD 4 0 = c4 at *
  generalize (if 0 < n then es 0 else 0) = d0 at *; generalize (if 1 < n then es 1 else 0) = d1 at *; generalize (if 2 < n then es 2 else 0) = d2 at *; generalize (if 3 < n then es 3 else 0) = d3 at *
  constructor <;> omega
theorem VK.lens {k : Nat} (h : VK k) : rdig k 0 ≤ 5 ∧ rdig k 6 ≤ 4 := by
  obtain ⟨w, es, n, h1, h2, h3, h4, rfl⟩ := h
  have := rdig_len h1 h2 h3 h4
  omega
def opWrite (q : xQ) : xO × xQ := if (wrt q.1 q.2.2.1 ([], false)).2 then (.inr eS, q) else (rI (nI (wrt q.1 q.2.2.1 ([], false)).1.length), (q.1, q.2.1, q.2.2.1, q.2.2.2.1, q.2.2.2.2.1, (wrt q.1 q.2.2.1 ([], false)).1))
def ana (q : xQ) : List Nat × Bool := lxGo q.1 q.2.1 q.2.2.2.1 4 0 [] [] ([], false)
def opAna (q : xQ) : xO × xQ := if (ana q).2 then (.inr eS, q) else (rI (nI (ana q).1.length), (q.1, q.2.1, q.2.2.1, q.2.2.2.1, q.2.2.2.2.1, (ana q).1))
def opLen (q : xQ) (k : Int32) (b : Bool) : xO × xQ := if 0 ≤ k.toInt ∧ k.toInt < q.2.2.2.2.2.length then (rI (nI (rdig (q.2.2.2.2.2.getD k.toInt.toNat 0) (if b then 6 else 0))), q) else (.inr eO, q)
def opRes (q : xQ) (k i : Int32) (b : Bool) : xO × xQ :=
  if 0 ≤ k.toInt ∧ k.toInt < q.2.2.2.2.2.length then (if 0 ≤ i.toInt ∧ i.toInt < rdig (q.2.2.2.2.2.getD k.toInt.toNat 0) (if b then 6 else 0) then (rI (nI (rdig (q.2.2.2.2.2.getD k.toInt.toNat 0) ((if b then 7 else 1) + i.toInt.toNat))), q) else (.inr eO, q)) else (.inr eO, q)
section PWC
variable {l : Launch} {G : xG} {d : Nat} {h : xH} {x : Nat} {q : xQ}
theorem c_PW_write (H : PS h x q) : xMet l G mPW_write (d + 24) 1 6 [.ref x] h (fun o h' => o = (opWrite q).1 ∧ PS h' x (opWrite q).2 ∧ Fr h h' x) := by
  have H0 := H
  obtain ⟨o0, HE, HX, ⟨dy, HD⟩, HL, HU, HS, HR, HY, HB⟩ := H
  obtain ⟨rf, r1, -, r3, -⟩ := id HR
  have HD0 := HD
  obtain ⟨D1, D2, D3, cs, D4⟩ := HD0
  obtain ⟨rg, r2, -⟩ := id D3
  refine xMet_of (L := [_]) (by decide) (Nat.le_of_ble_eq_true rfl) rfl ?_
  refine ex_aload_n dPW_write_0 rfl ?_
  refine ex_get dPW_write_1 fg_PW_56 o0 rfl ?_
  refine ex_v0 dPW_write_4 iv_PW_102 cd_Resu_clear ar_Resu_clear r2 (c_Resu_clear (d := d) D3) (by dsimp only; omega) (Nat.le_of_ble_eq_true rfl) (Nat.zero_le _) (Nat.zero_le _) (fun E h9 q9 => by simp at q9) (fun v9 g1 hq => ?_)
  obtain ⟨e, R1, S1⟩ := hq
  cases e
  have k0 := (S1.2 x (by omega)).trans o0
  have Y1 := HY.eq (h' := g1) (fun z a b => S1.2 z (by omega))
  obtain ⟨w9, y1, -⟩ := id Y1.1
  refine ex_aload_n dPW_write_7 rfl ?_
  refine ex_get dPW_write_8 fg_PW_73 k0 rfl ?_
  refine ex_aload_n dPW_write_11 rfl ?_
  refine ex_get dPW_write_12 fg_PW_35 k0 rfl ?_
  refine ex_u1 dPW_write_15 iu_PW_201_Writ cd_Sear_goThrough ar_Sear_goThrough y1 (c_goThrough_Writ (d := d) (s := ([], false)) (by omega) (by omega) (by omega) HB.2.1 (HE.sm S1 (by omega)) Y1 R1 (HL.sm S1 (by omega))) (by dsimp only; omega) (Nat.le_of_ble_eq_true rfl) (Nat.zero_le _) (Nat.zero_le _) (fun E h9 q9 => by simp at q9) (fun v8 g2 hq => ?_)
  obtain ⟨e, X2, F2⟩ := hq
  cases e
  have EQ : ∀ z : Nat, ((z < x + 81 ∨ x + 83 ≤ z) ∧ (z < x + 90 ∨ x + 97 ≤ z)) → g2.2 z = h.2 z := fun z hz => (F2.2 z (by omega) (by omega)).trans (S1.2 z (by omega))
  have R2 := X2.2.2
  have PS2 : ∀ (g3 : xH) (ks : List Nat), Rs g3 (x + 79) ks false → Sm g2 g3 (x + 79) (x + 81) → PS g3 x (q.1, q.2.1, q.2.2.1, q.2.2.2.1, q.2.2.2.2.1, ks) := fun g3 ks R3 S3 => by
    have EQ3 : ∀ z : Nat, ((z < x + 79 ∨ x + 83 ≤ z) ∧ (z < x + 90 ∨ x + 97 ≤ z)) → g3.2 z = h.2 z := fun z hz => (S3.2 z (by omega)).trans (EQ z (by omega))
    exact ⟨(EQ3 _ (by omega)).trans o0, HE.fe (fun z a b => EQ3 z (by omega)), HX.fe (fun z a b => EQ3 z (by omega)), ⟨wrt q.1 q.2.2.1 ([], false), D1.at (EQ3 _ (by omega)), D2.fe (fun z a b => EQ3 z (by omega)), R2.sm S3 (by omega), cs, D4.eq (fun z a b => EQ3 z (by omega))⟩, HL.fe (fun z a b => EQ3 z (by omega)), HU.fe (fun z a b => EQ3 z (by omega)), HS.fe (fun z a b => EQ3 z (by omega)), R3, X2.idle.eq (fun z a b => S3.2 z (by omega)), HB⟩
  obtain ⟨ri, t1, -⟩ := id R2
  have m0 := (EQ x (by omega)).trans o0
  refine ex_aload_n dPW_write_18 rfl ?_
  refine ex_get dPW_write_19 fg_PW_56 m0 rfl ?_
  refine ex_v0 dPW_write_22 iv_PW_205 cd_Resu_isTooMany ar_Resu_isTooMany t1 (c_Resu_isTooMany (d := d) R2) (by dsimp only; omega) (Nat.le_of_ble_eq_true rfl) (Nat.zero_le _) (Nat.zero_le _) (fun E h9 q9 => by simp at q9) (fun v7 hp7 hq => ?_)
  obtain ⟨e, e1⟩ := hq
  cases e
  rw [e1]
  refine ex_if_eq (tgt := 38) dPW_write_25 (by decide) (fun hc => ?_) (fun hc => ?_)
  · have ht := bI_0.mp hc
    have u1 : opWrite q = (rI (nI (wrt q.1 q.2.2.1 ([], false)).1.length), (q.1, q.2.1, q.2.2.1, q.2.2.2.1, q.2.2.2.2.1, (wrt q.1 q.2.2.1 ([], false)).1)) := by unfold opWrite; rw [ht]; rfl
    rw [ht] at R2
    have m1 := (EQ (x + 79) (by omega)).trans r1
    refine ex_aload_n dPW_write_38 rfl ?_
    refine ex_get dPW_write_39 fg_PW_52 m0 rfl ?_
    refine ex_aload_n dPW_write_42 rfl ?_
    refine ex_get dPW_write_43 fg_PW_56 m0 rfl ?_
    refine ex_v1 dPW_write_46 iv_PW_210 cd_Resu_copy ar_Resu_copy m1 (c_Resu_copy (d := d) (a := x + 79) (b := x + 81) (by omega) (HR.fe (fun z a b => EQ z (by omega))) R2) (by dsimp only; omega) (Nat.le_of_ble_eq_true rfl) (Nat.zero_le _) (Nat.zero_le _) (fun E h9 q9 => by simp at q9) (fun v6 g3 hq => ?_)
    obtain ⟨e, R3, S3⟩ := hq
    cases e
    obtain ⟨rj, t3, -⟩ := id R3
    refine ex_aload_n dPW_write_49 rfl ?_
    refine ex_get dPW_write_50 fg_PW_52 ((S3.2 x (by omega)).trans m0) rfl ?_
    refine ex_v0 dPW_write_53 iv_PW_214 cd_Resu_count ar_Resu_count t3 (c_Resu_count (d := d) R3) (by dsimp only; omega) (Nat.le_of_ble_eq_true rfl) (Nat.zero_le _) (Nat.zero_le _) (fun E h9 q9 => by simp at q9) (fun v5 hp5 hq => ?_)
    obtain ⟨e, e1⟩ := hq
    cases e
    rw [e1]
    exact ex_iret dPW_write_56 rfl (Nat.zero_le _) (Nat.zero_le _) ⟨by rw [u1], by rw [u1]; exact PS2 g3 _ R3 S3, fun z hz => (S3.2 z (by omega)).trans (EQ z (by omega))⟩
  · have ht := bI_1 hc
    have u1 : opWrite q = (.inr eS, q) := by unfold opWrite; rw [ht]; rfl
    exact ex_throw dPW_write_28 dPW_write_31 dPW_write_32 dPW_write_34 dPW_write_37 ox_208 rfl (by decide) (Nat.le_of_ble_eq_true rfl) (Nat.le_of_ble_eq_true rfl) ⟨by rw [u1], by rw [u1]; exact (PS2 g2 _ (HR.fe (fun z a b => EQ z (by omega))) Sm.rf).bump, fun z hz => EQ z (by omega)⟩
theorem c_PW_analyse (H : PS h x q) : xMet l G mPW_analyse (d + 35) 1 6 [.ref x] h (fun o h' => o = (opAna q).1 ∧ PS h' x (opAna q).2 ∧ Fr h h' x) := by
  have H0 := H
  obtain ⟨o0, HE, HX, ⟨dy, HD⟩, HL, HU, HS, HR, HY, HB⟩ := H
  obtain ⟨rf, r1, -, r3, -⟩ := id HR
  have HD0 := HD
  obtain ⟨D1, D2, D3, cs, D4⟩ := HD0
  obtain ⟨rg, r2, -⟩ := id D3
  obtain ⟨gx, fx, x1, -⟩ := id HX
  refine xMet_of (L := [_]) (by decide) (Nat.le_of_ble_eq_true rfl) rfl ?_
  refine ex_aload_n dPW_analyse_0 rfl ?_
  refine ex_get dPW_analyse_1 fg_PW_56 o0 rfl ?_
  refine ex_v0 dPW_analyse_4 iv_PW_102 cd_Resu_clear ar_Resu_clear r2 (c_Resu_clear (d := d) D3) (by dsimp only; omega) (Nat.le_of_ble_eq_true rfl) (Nat.zero_le _) (Nat.zero_le _) (fun E h9 q9 => by simp at q9) (fun v9 g1 hq => ?_)
  obtain ⟨e, R1, S1⟩ := hq
  cases e
  have k0 := (S1.2 x (by omega)).trans o0
  have k1 := (S1.2 (x + 17) (by omega)).trans x1
  have ST : St3 g1 x q.1 q.2.1 q.2.2.2.1 := ⟨HE.sm S1 (by omega), HX.sm S1 (by omega), HU.sm S1 (by omega)⟩
  refine ex_aload_n dPW_analyse_7 rfl ?_
  refine ex_get dPW_analyse_8 fg_PW_26 k0 rfl ?_
  refine ex_iconst (v := nI 0) dPW_analyse_11 (by decide) ?_
  refine ex_iconst (v := nI 0) dPW_analyse_12 (by decide) ?_
  refine ex_aload_n dPW_analyse_13 rfl ?_
  refine ex_get dPW_analyse_14 fg_PW_39 k0 rfl ?_
  refine ex_aload_n dPW_analyse_17 rfl ?_
  refine ex_get dPW_analyse_18 fg_PW_64 k0 rfl ?_
  refine ex_aload_n dPW_analyse_21 rfl ?_
  refine ex_get dPW_analyse_22 fg_PW_56 k0 rfl ?_
  refine ex_p5 dPW_analyse_25 ip_PW_215 cd_Lexi_goOn ar_Lexi_goOn k1 (c_Lexi_goOn (d := d) HB.1 HB.2.2.1 4 [] [] 0 0 ([], false) g1 rfl rfl (fun z hz => by simp at hz) (by simp) (fun i => by simp) (by omega) ST ⟨D1.at (S1.2 _ (by omega)), D2.sm S1 (by omega), R1, cs, D4.eq (fun z a b => S1.2 z (by omega))⟩) (by dsimp only; omega) (Nat.le_of_ble_eq_true rfl) (Nat.zero_le _) (Nat.zero_le _) (fun E h9 q9 => by simp at q9) (fun v8 g2 hq => ?_)
  obtain ⟨e, X2, F2⟩ := hq
  cases e
  have EQ : ∀ z : Nat, ((z < x + 21 ∨ x + 24 ≤ z) ∧ (z < x + 81 ∨ x + 90 ≤ z)) → g2.2 z = h.2 z := fun z hz => (F2.2 z (by omega) (by omega)).trans (S1.2 z (by omega))
  have R2 : Rs g2 (x + 81) (ana q).1 (ana q).2 := X2.2.2.1
  obtain ⟨HE2, HX2, HU2⟩ := ST.f3 F2
  have PS2 : ∀ (g3 : xH) (ks : List Nat), Rs g3 (x + 79) ks false → Sm g2 g3 (x + 79) (x + 81) → PS g3 x (q.1, q.2.1, q.2.2.1, q.2.2.2.1, q.2.2.2.2.1, ks) := fun g3 ks R3 S3 => by
    have EQ3 : ∀ z : Nat, ((z < x + 21 ∨ x + 24 ≤ z) ∧ (z < x + 79 ∨ x + 90 ≤ z)) → g3.2 z = h.2 z := fun z hz => (S3.2 z (by omega)).trans (EQ z (by omega))
    exact ⟨(EQ3 _ (by omega)).trans o0, HE2.sm S3 (by omega), HX2.sm S3 (by omega), ⟨ana q, X2.sm S3 (by omega)⟩, HL.fe (fun z a b => EQ3 z (by omega)), HU2.sm S3 (by omega), HS.fe (fun z a b => EQ3 z (by omega)), R3, HY.eq (fun z a b => EQ3 z (by omega)), HB⟩
  obtain ⟨ri, t1, -⟩ := id R2
  have m0 := (EQ x (by omega)).trans o0
  refine ex_aload_n dPW_analyse_28 rfl ?_
  refine ex_get dPW_analyse_29 fg_PW_56 m0 rfl ?_
  refine ex_v0 dPW_analyse_32 iv_PW_205 cd_Resu_isTooMany ar_Resu_isTooMany t1 (c_Resu_isTooMany (d := d) R2) (by dsimp only; omega) (Nat.le_of_ble_eq_true rfl) (Nat.zero_le _) (Nat.zero_le _) (fun E h9 q9 => by simp at q9) (fun v7 hp7 hq => ?_)
  obtain ⟨e, e1⟩ := hq
  cases e
  rw [e1]
  refine ex_if_eq (tgt := 48) dPW_analyse_35 (by decide) (fun hc => ?_) (fun hc => ?_)
  · have ht := bI_0.mp hc
    have u1 : opAna q = (rI (nI (ana q).1.length), (q.1, q.2.1, q.2.2.1, q.2.2.2.1, q.2.2.2.2.1, (ana q).1)) := by unfold opAna; rw [ht]; rfl
    rw [ht] at R2
    have m1 := (EQ (x + 79) (by omega)).trans r1
    refine ex_aload_n dPW_analyse_48 rfl ?_
    refine ex_get dPW_analyse_49 fg_PW_52 m0 rfl ?_
    refine ex_aload_n dPW_analyse_52 rfl ?_
    refine ex_get dPW_analyse_53 fg_PW_56 m0 rfl ?_
    refine ex_v1 dPW_analyse_56 iv_PW_210 cd_Resu_copy ar_Resu_copy m1 (c_Resu_copy (d := d) (a := x + 79) (b := x + 81) (by omega) (HR.fe (fun z a b => EQ z (by omega))) R2) (by dsimp only; omega) (Nat.le_of_ble_eq_true rfl) (Nat.zero_le _) (Nat.zero_le _) (fun E h9 q9 => by simp at q9) (fun v6 g3 hq => ?_)
    obtain ⟨e, R3, S3⟩ := hq
    cases e
    obtain ⟨rj, t3, -⟩ := id R3
    refine ex_aload_n dPW_analyse_59 rfl ?_
    refine ex_get dPW_analyse_60 fg_PW_52 ((S3.2 x (by omega)).trans m0) rfl ?_
    refine ex_v0 dPW_analyse_63 iv_PW_214 cd_Resu_count ar_Resu_count t3 (c_Resu_count (d := d) R3) (by dsimp only; omega) (Nat.le_of_ble_eq_true rfl) (Nat.zero_le _) (Nat.zero_le _) (fun E h9 q9 => by simp at q9) (fun v5 hp5 hq => ?_)
    obtain ⟨e, e1⟩ := hq
    cases e
    rw [e1]
    exact ex_iret dPW_analyse_66 rfl (Nat.zero_le _) (Nat.zero_le _) ⟨by rw [u1], by rw [u1]; exact PS2 g3 _ R3 S3, fun z hz => (S3.2 z (by omega)).trans (EQ z (by omega))⟩
  · have ht := bI_1 hc
    have u1 : opAna q = (.inr eS, q) := by unfold opAna; rw [ht]; rfl
    exact ex_throw dPW_analyse_38 dPW_analyse_41 dPW_analyse_42 dPW_analyse_44 dPW_analyse_47 ox_208 rfl (by decide) (Nat.le_of_ble_eq_true rfl) (Nat.le_of_ble_eq_true rfl) ⟨by rw [u1], by rw [u1]; exact (PS2 g2 _ (HR.fe (fun z a b => EQ z (by omega))) Sm.rf).bump, fun z hz => EQ z (by omega)⟩
theorem c_PW_length {k : Int32} {b : Bool} (H : PS h x q) : xMet l G mPW_length (d + 3) 1 6 [.ref x, .int k, .int (bI b)] h (fun o h' => o = (opLen q k b).1 ∧ PS h' x (opLen q k b).2 ∧ Fr h h' x) := by
  have H0 := H
  obtain ⟨o0, HE, HX, ⟨dy, HD⟩, HL, HU, HS, HR, HY, HB⟩ := H
  obtain ⟨rf, r1, -, r3, -⟩ := id HR
  have HD0 := HD
  obtain ⟨D1, D2, D3, cs, D4⟩ := HD0
  obtain ⟨rg, r2, -⟩ := id D3
  have t15 : ¬ (0 ≤ k.toInt ∧ k.toInt < q.2.2.2.2.2.length) → Ex (l, G, d + 3, 1, 6, h, fun o h' => o = (opLen q k b).1 ∧ PS h' x (opLen q k b).2 ∧ Fr h h' x) mPW_length 15 [some (.ref x), some (.int k), some (.int (bI b))] [] h 0 0 := by
    intro hn
    have u1 : opLen q k b = (.inr eO, q) := by unfold opLen; rw [if_neg hn]
    exact ex_throw dPW_length_15 dPW_length_18 dPW_length_19 dPW_length_21 dPW_length_24 ox_221 rfl (by decide) (Nat.le_of_ble_eq_true rfl) (Nat.le_of_ble_eq_true rfl) ⟨by rw [u1], by rw [u1]; exact H0.bump, Fr.rf⟩
  refine xMet_of (L := [_, _, _]) (by decide) (Nat.le_of_ble_eq_true rfl) rfl ?_
  refine ex_iload_n dPW_length_0 rfl ?_
  refine ex_if_lt (tgt := 15) dPW_length_1 (by decide) (fun hc => ?_) (fun hc => ?_)
  · rw [lt0] at hc; exact t15 (by omega)
  rw [lt0] at hc
  refine ex_iload_n dPW_length_4 rfl ?_
  refine ex_aload_n dPW_length_5 rfl ?_
  refine ex_get dPW_length_6 fg_PW_52 o0 rfl ?_
  refine ex_v0 dPW_length_9 iv_PW_214 cd_Resu_count ar_Resu_count r1 (c_Resu_count (d := d) HR) (by dsimp only; omega) (Nat.le_of_ble_eq_true rfl) (Nat.zero_le _) (Nat.zero_le _) (fun E h9 q9 => by simp at q9) (fun v9 hp9 hq => ?_)
  obtain ⟨e, e1⟩ := hq
  cases e
  rw [e1]
  refine ex_icmp_lt (tgt := 25) dPW_length_12 (by decide) (fun hc2 => ?_) (fun hc2 => ?_)
  rotate_left
  · rw [ltN (by omega)] at hc2; exact t15 (by omega)
  rw [ltN (by omega)] at hc2
  have ek := iv_of (a := k) (by omega)
  have hk : k.toInt.toNat < q.2.2.2.2.2.length := by omega
  have u1 : opLen q k b = (rI (nI (rdig (q.2.2.2.2.2.getD k.toInt.toNat 0) (if b then 6 else 0))), q) := by unfold opLen; rw [if_pos ⟨by omega, hc2⟩]
  refine ex_iload_n dPW_length_25 rfl ?_
  cases b with
  | true =>
    refine ex_if_eq (tgt := 40) dPW_length_26 (by decide) (fun hc6 => ?_) (fun hc6 => ?_)
    · exact absurd hc6 (by decide)
    have em := c_Resu_entriesOf (l := l) (G := G) (d := d) hk HR
    rw [← ek.1] at em
    refine ex_aload_n dPW_length_29 rfl ?_
    refine ex_get dPW_length_30 fg_PW_52 o0 rfl ?_
    refine ex_iload_n dPW_length_33 rfl ?_
    refine ex_v1 dPW_length_34 iv_PW_224 cd_Resu_entriesOf ar_Resu_entriesOf r1 (em) (by dsimp only; omega) (Nat.le_of_ble_eq_true rfl) (Nat.zero_le _) (Nat.zero_le _) (fun E h9 q9 => by simp at q9) (fun v6 hp6 hq => ?_)
    obtain ⟨e, e1⟩ := hq
    cases e
    rw [e1]
    refine ex_goto (tgt := 48) dPW_length_37 (by decide) ?_
    exact ex_iret dPW_length_48 rfl (Nat.zero_le _) (Nat.zero_le _) ⟨by rw [u1]; rfl, by rw [u1]; exact H0, Fr.rf⟩
  | false =>
    refine ex_if_eq (tgt := 40) dPW_length_26 (by decide) (fun hc6 => ?_) (fun hc6 => ?_)
    rotate_left
    · exact absurd rfl hc6
    have em := c_Resu_signsOf (l := l) (G := G) (d := d) hk HR
    rw [← ek.1] at em
    refine ex_aload_n dPW_length_40 rfl ?_
    refine ex_get dPW_length_41 fg_PW_52 o0 rfl ?_
    refine ex_iload_n dPW_length_44 rfl ?_
    refine ex_v1 dPW_length_45 iv_PW_227 cd_Resu_signsOf ar_Resu_signsOf r1 (em) (by dsimp only; omega) (Nat.le_of_ble_eq_true rfl) (Nat.zero_le _) (Nat.zero_le _) (fun E h9 q9 => by simp at q9) (fun v6 hp6 hq => ?_)
    obtain ⟨e, e1⟩ := hq
    cases e
    rw [e1]
    exact ex_iret dPW_length_48 rfl (Nat.zero_le _) (Nat.zero_le _) ⟨by rw [u1]; rfl, by rw [u1]; exact H0, Fr.rf⟩
theorem c_PW_result {k i : Int32} {b : Bool} (HK : ∀ k ∈ q.2.2.2.2.2, VK k) (H : PS h x q) : xMet l G mPW_result (d + 3) 1 6 [.ref x, .int k, .int i, .int (bI b)] h (fun o h' => o = (opRes q k i b).1 ∧ PS h' x (opRes q k i b).2 ∧ Fr h h' x) := by
  have H0 := H
  obtain ⟨o0, HE, HX, ⟨dy, HD⟩, HL, HU, HS, HR, HY, HB⟩ := H
  obtain ⟨rf, r1, -, r3, -⟩ := id HR
  have HD0 := HD
  obtain ⟨D1, D2, D3, cs, D4⟩ := HD0
  obtain ⟨rg, r2, -⟩ := id D3
  have t15 : ¬ (0 ≤ k.toInt ∧ k.toInt < q.2.2.2.2.2.length) → Ex (l, G, d + 3, 1, 6, h, fun o h' => o = (opRes q k i b).1 ∧ PS h' x (opRes q k i b).2 ∧ Fr h h' x) mPW_result 15 [some (.ref x), some (.int k), some (.int i), some (.int (bI b)), none] [] h 0 0 := by
    intro hn
    have u1 : opRes q k i b = (.inr eO, q) := by unfold opRes; rw [if_neg hn]
    exact ex_throw dPW_result_15 dPW_result_18 dPW_result_19 dPW_result_21 dPW_result_24 ox_221 rfl (by decide) (Nat.le_of_ble_eq_true rfl) (Nat.le_of_ble_eq_true rfl) ⟨by rw [u1], by rw [u1]; exact H0.bump, Fr.rf⟩
  refine xMet_of (L := [_, _, _, _, _]) (by decide) (Nat.le_of_ble_eq_true rfl) rfl ?_
  refine ex_iload_n dPW_result_0 rfl ?_
  refine ex_if_lt (tgt := 15) dPW_result_1 (by decide) (fun hc => ?_) (fun hc => ?_)
  · rw [lt0] at hc; exact t15 (by omega)
  rw [lt0] at hc
  refine ex_iload_n dPW_result_4 rfl ?_
  refine ex_aload_n dPW_result_5 rfl ?_
  refine ex_get dPW_result_6 fg_PW_52 o0 rfl ?_
  refine ex_v0 dPW_result_9 iv_PW_214 cd_Resu_count ar_Resu_count r1 (c_Resu_count (d := d) HR) (by dsimp only; omega) (Nat.le_of_ble_eq_true rfl) (Nat.zero_le _) (Nat.zero_le _) (fun E h9 q9 => by simp at q9) (fun v9 hp9 hq => ?_)
  obtain ⟨e, e1⟩ := hq
  cases e
  rw [e1]
  refine ex_icmp_lt (tgt := 25) dPW_result_12 (by decide) (fun hc2 => ?_) (fun hc2 => ?_)
  rotate_left
  · rw [ltN (by omega)] at hc2; exact t15 (by omega)
  rw [ltN (by omega)] at hc2
  have ek := iv_of (a := k) (by omega)
  have hk : k.toInt.toNat < q.2.2.2.2.2.length := by omega
  have hV := (HK _ (getD_mem (d := 0) hk)).lens
  have u1 : opRes q k i b = (if 0 ≤ i.toInt ∧ i.toInt < rdig (q.2.2.2.2.2.getD k.toInt.toNat 0) (if b then 6 else 0) then (rI (nI (rdig (q.2.2.2.2.2.getD k.toInt.toNat 0) ((if b then 7 else 1) + i.toInt.toNat))), q) else (.inr eO, q)) := by unfold opRes; rw [if_pos ⟨by omega, hc2⟩]
  refine ex_iload_n dPW_result_25 rfl ?_
  cases b with
  | true =>
    refine ex_if_eq (tgt := 40) dPW_result_26 (by decide) (fun hc6 => ?_) (fun hc6 => ?_)
    · exact absurd hc6 (by decide)
    have em := c_Resu_entriesOf (l := l) (G := G) (d := d) hk HR
    rw [← ek.1] at em
    have u1 : opRes q k i true = (if 0 ≤ i.toInt ∧ i.toInt < rdig (q.2.2.2.2.2.getD k.toInt.toNat 0) 6 then (rI (nI (rdig (q.2.2.2.2.2.getD k.toInt.toNat 0) (7 + i.toInt.toNat))), q) else (.inr eO, q)) := u1
    refine ex_aload_n dPW_result_29 rfl ?_
    refine ex_get dPW_result_30 fg_PW_52 o0 rfl ?_
    refine ex_iload_n dPW_result_33 rfl ?_
    refine ex_v1 dPW_result_34 iv_PW_224 cd_Resu_entriesOf ar_Resu_entriesOf r1 (em) (by dsimp only; omega) (Nat.le_of_ble_eq_true rfl) (Nat.zero_le _) (Nat.zero_le _) (fun E h9 q9 => by simp at q9) (fun v6 hp6 hq => ?_)
    obtain ⟨e, e1⟩ := hq
    cases e
    rw [e1]
    refine ex_goto (tgt := 48) dPW_result_37 (by decide) ?_
    have t60 : ¬ (0 ≤ i.toInt ∧ i.toInt < rdig (q.2.2.2.2.2.getD k.toInt.toNat 0) 6) → Ex (l, G, d + 3, 1, 6, h, fun o h' => o = (opRes q k i true).1 ∧ PS h' x (opRes q k i true).2 ∧ Fr h h' x) mPW_result 60 [some (.ref x), some (.int k), some (.int i), some (.int (bI true)), some (.int (nI (rdig (q.2.2.2.2.2.getD k.toInt.toNat 0) 6)))] [] h 0 0 := by
      intro hn
      rw [if_neg hn] at u1
      exact ex_throw dPW_result_60 dPW_result_63 dPW_result_64 dPW_result_66 dPW_result_69 ox_229 rfl (by decide) (Nat.le_of_ble_eq_true rfl) (Nat.le_of_ble_eq_true rfl) ⟨by rw [u1], by rw [u1]; exact H0.bump, Fr.rf⟩
    refine ex_istore (L' := [_, _, _, _, _]) dPW_result_48 (by decide) rfl ?_
    refine ex_iload_n dPW_result_50 rfl ?_
    refine ex_if_lt (tgt := 60) dPW_result_51 (by decide) (fun hc7 => ?_) (fun hc7 => ?_)
    · rw [lt0] at hc7; exact t60 (by omega)
    rw [lt0] at hc7
    refine ex_iload_n dPW_result_54 rfl ?_
    refine ex_iload dPW_result_55 rfl ?_
    refine ex_icmp_lt (tgt := 70) dPW_result_57 (by decide) (fun hc8 => ?_) (fun hc8 => ?_)
    rotate_left
    · rw [ltN (by omega)] at hc8; exact t60 (by omega)
    rw [ltN (by omega)] at hc8
    rw [if_pos ⟨by omega, hc8⟩] at u1
    have ei := iv_of (a := i) (by omega)
    have em2 := c_Resu_entryOf (l := l) (G := G) (d := d) (i := k.toInt.toNat) (j := i.toInt.toNat) (by omega) hk HR
    rw [← ek.1, ← ei.1] at em2
    refine ex_iload_n dPW_result_70 rfl ?_
    refine ex_if_eq (tgt := 86) dPW_result_71 (by decide) (fun hc9 => ?_) (fun hc9 => ?_)
    · exact absurd hc9 (by decide)
    refine ex_aload_n dPW_result_74 rfl ?_
    refine ex_get dPW_result_75 fg_PW_52 o0 rfl ?_
    refine ex_iload_n dPW_result_78 rfl ?_
    refine ex_iload_n dPW_result_79 rfl ?_
    refine ex_v2 dPW_result_80 iv_PW_231 cd_Resu_entryOf ar_Resu_entryOf r1 (em2) (by dsimp only; omega) (Nat.le_of_ble_eq_true rfl) (Nat.zero_le _) (Nat.zero_le _) (fun E h9 q9 => by simp at q9) (fun v5 hp5 hq => ?_)
    obtain ⟨e, e1⟩ := hq
    cases e
    rw [e1]
    refine ex_goto (tgt := 95) dPW_result_83 (by decide) ?_
    exact ex_iret dPW_result_95 rfl (Nat.zero_le _) (Nat.zero_le _) ⟨by rw [u1], by rw [u1]; exact H0, Fr.rf⟩
  | false =>
    refine ex_if_eq (tgt := 40) dPW_result_26 (by decide) (fun hc6 => ?_) (fun hc6 => ?_)
    rotate_left
    · exact absurd rfl hc6
    have em := c_Resu_signsOf (l := l) (G := G) (d := d) hk HR
    rw [← ek.1] at em
    have u1 : opRes q k i false = (if 0 ≤ i.toInt ∧ i.toInt < rdig (q.2.2.2.2.2.getD k.toInt.toNat 0) 0 then (rI (nI (rdig (q.2.2.2.2.2.getD k.toInt.toNat 0) (1 + i.toInt.toNat))), q) else (.inr eO, q)) := u1
    refine ex_aload_n dPW_result_40 rfl ?_
    refine ex_get dPW_result_41 fg_PW_52 o0 rfl ?_
    refine ex_iload_n dPW_result_44 rfl ?_
    refine ex_v1 dPW_result_45 iv_PW_227 cd_Resu_signsOf ar_Resu_signsOf r1 (em) (by dsimp only; omega) (Nat.le_of_ble_eq_true rfl) (Nat.zero_le _) (Nat.zero_le _) (fun E h9 q9 => by simp at q9) (fun v6 hp6 hq => ?_)
    obtain ⟨e, e1⟩ := hq
    cases e
    rw [e1]
    have t60 : ¬ (0 ≤ i.toInt ∧ i.toInt < rdig (q.2.2.2.2.2.getD k.toInt.toNat 0) 0) → Ex (l, G, d + 3, 1, 6, h, fun o h' => o = (opRes q k i false).1 ∧ PS h' x (opRes q k i false).2 ∧ Fr h h' x) mPW_result 60 [some (.ref x), some (.int k), some (.int i), some (.int (bI false)), some (.int (nI (rdig (q.2.2.2.2.2.getD k.toInt.toNat 0) 0)))] [] h 0 0 := by
      intro hn
      rw [if_neg hn] at u1
      exact ex_throw dPW_result_60 dPW_result_63 dPW_result_64 dPW_result_66 dPW_result_69 ox_229 rfl (by decide) (Nat.le_of_ble_eq_true rfl) (Nat.le_of_ble_eq_true rfl) ⟨by rw [u1], by rw [u1]; exact H0.bump, Fr.rf⟩
    refine ex_istore (L' := [_, _, _, _, _]) dPW_result_48 (by decide) rfl ?_
    refine ex_iload_n dPW_result_50 rfl ?_
    refine ex_if_lt (tgt := 60) dPW_result_51 (by decide) (fun hc7 => ?_) (fun hc7 => ?_)
    · rw [lt0] at hc7; exact t60 (by omega)
    rw [lt0] at hc7
    refine ex_iload_n dPW_result_54 rfl ?_
    refine ex_iload dPW_result_55 rfl ?_
    refine ex_icmp_lt (tgt := 70) dPW_result_57 (by decide) (fun hc8 => ?_) (fun hc8 => ?_)
    rotate_left
    · rw [ltN (by omega)] at hc8; exact t60 (by omega)
    rw [ltN (by omega)] at hc8
    rw [if_pos ⟨by omega, hc8⟩] at u1
    have ei := iv_of (a := i) (by omega)
    have em2 := c_Resu_signOf (l := l) (G := G) (d := d) (i := k.toInt.toNat) (j := i.toInt.toNat) (by omega) hk HR
    rw [← ek.1, ← ei.1] at em2
    refine ex_iload_n dPW_result_70 rfl ?_
    refine ex_if_eq (tgt := 86) dPW_result_71 (by decide) (fun hc9 => ?_) (fun hc9 => ?_)
    rotate_left
    · exact absurd rfl hc9
    refine ex_aload_n dPW_result_86 rfl ?_
    refine ex_get dPW_result_87 fg_PW_52 o0 rfl ?_
    refine ex_iload_n dPW_result_90 rfl ?_
    refine ex_iload_n dPW_result_91 rfl ?_
    refine ex_v2 dPW_result_92 iv_PW_234 cd_Resu_signOf ar_Resu_signOf r1 (em2) (by dsimp only; omega) (Nat.le_of_ble_eq_true rfl) (Nat.zero_le _) (Nat.zero_le _) (fun E h9 q9 => by simp at q9) (fun v5 hp5 hq => ?_)
    obtain ⟨e, e1⟩ := hq
    cases e
    rw [e1]
    exact ex_iret dPW_result_95 rfl (Nat.zero_le _) (Nat.zero_le _) ⟨by rw [u1], by rw [u1]; exact H0, Fr.rf⟩
end PWC
