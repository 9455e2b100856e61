/-! PairedWords: what each call does; calls that change pairs and rules. -/
abbrev eA : String := "java/lang/IllegalArgumentException"
abbrev eS : String := "java/lang/IllegalStateException"
abbrev eO : String := "java/lang/IndexOutOfBoundsException"
abbrev rI (v : Int32) : xO := .inl (some (.int v))
theorem Dy.fd {h h' : xH} {x : Nat} {wd ws : List Nat} {s : List Nat × Bool} (H : Dy h x wd ws s) (e : ∀ q : Nat, (x + 21 ≤ q ∧ q < x + 24) ∨ (x + 81 ≤ q ∧ q < x + 90) → h'.2 q = h.2 q) : Dy h' x wd ws s := by
  obtain ⟨h1, h2, h3, c, h4⟩ := H
  exact ⟨h1.at (e _ (by omega)), h2.fe (fun q a b => e q (by omega)), h3.fe (fun q a b => e q (by omega)), c, h4.eq (fun q a b => e q (by omega))⟩
theorem Fr.rf {h : xH} {x : Nat} : Fr h h x := fun _ _ => rfl
def opPair (q : xQ) (a b : Int32) : xO × xQ :=
  if ¬ (sg0 a = true ∧ sg0 b = true) then (.inr eA, q)
  else if (a.toInt.toNat = 0 ∧ b.toInt.toNat = 0) ∨ (a.toInt.toNat, b.toInt.toNat) ∈ q.1.1 then (.inr eA, q)
  else if q.1.1.length < 10 ∧ (q.1.1.filter (fun z => z.1 == a.toInt.toNat)).length < (if a.toInt.toNat = 0 then 2 else 3) then (rI (nI q.1.1.length), ((q.1.1 ++ [(a.toInt.toNat, b.toInt.toNat)], q.1.2), q.2.1, q.2.2.1, q.2.2.2.1, q.2.2.2.2.1, []))
  else (.inr eS, q)
def opRule (q : xQ) (k p : Int32) : xO × xQ :=
  if ¬ (0 ≤ k.toInt ∧ k.toInt < 4 ∧ 0 ≤ p.toInt ∧ p.toInt < q.1.1.length) then (.inr eA, q)
  else if q.1.2.1.length < 4 then (rI (nI q.1.2.1.length), ((q.1.1, q.1.2.1 ++ [(k.toInt.toNat, p.toInt.toNat)], q.1.2.2), q.2.1, q.2.2.1, q.2.2.2.1, q.2.2.2.2.1, []))
  else (.inr eS, q)
def ptOpen (p : xPt) (c : Nat) (t : Bool) : xPt := (p.1, p.2.1, p.2.2.1, p.2.2.2.1 ||| pgoal c, if t then p.2.2.2.2 else p.2.2.2.2 ||| pgoal c)
def opCtx (q : xQ) (r : Int32) (t1 t2 : Bool) : xO × xQ :=
  if ¬ (0 ≤ r.toInt ∧ r.toInt < q.1.2.1.length) then (.inr eA, q)
  else if q.1.2.2.1 r.toInt.toNat < 2 then (rI (nI (q.1.2.2.1 r.toInt.toNat + 1)), ((q.1.1, q.1.2.1, va_up q.1.2.2.1 r.toInt.toNat (q.1.2.2.1 r.toInt.toNat + 1), ptOpen q.1.2.2.2.1 (2 * r.toInt.toNat + q.1.2.2.1 r.toInt.toNat) t1, ptOpen q.1.2.2.2.2 (2 * r.toInt.toNat + q.1.2.2.1 r.toInt.toNat) t2), q.2.1, q.2.2.1, q.2.2.2.1, q.2.2.2.2.1, []))
  else (.inr eS, q)
def ptAdd (fl : Bool) (p : xPt) (c s : Nat) (b : Bool) : xPt := (va_up p.1 c (p.1 c + 1), padH fl c s (p.1 c + 1) p.2.1, padS fl c (p.1 c + 1) b p.2.2.1, plow p.2.2.2.1 c, plow p.2.2.2.2 c)
def opEl (q : xQ) (r : Int32) (bh : Bool) (s : Int32) (st : Bool) : xO × xQ :=
  if ¬ (0 ≤ r.toInt ∧ r.toInt < q.1.2.1.length) then (.inr eA, q)
  else if ¬ (0 ≤ s.toInt ∧ s.toInt.toNat < 2 ^ q.1.1.length) then (.inr eA, q)
  else if q.1.2.2.1 r.toInt.toNat = 0 then (.inr eS, q)
  else if (if bh then q.1.2.2.2.2 else q.1.2.2.2.1).1 (2 * r.toInt.toNat + q.1.2.2.1 r.toInt.toNat - 1) < 2 then
    (rI (nI ((if bh then q.1.2.2.2.2 else q.1.2.2.2.1).1 (2 * r.toInt.toNat + q.1.2.2.1 r.toInt.toNat - 1) + 1)), ((q.1.1, q.1.2.1, q.1.2.2.1, if bh then q.1.2.2.2.1 else ptAdd true q.1.2.2.2.1 (2 * r.toInt.toNat + q.1.2.2.1 r.toInt.toNat - 1) s.toInt.toNat st, if bh then ptAdd false q.1.2.2.2.2 (2 * r.toInt.toNat + q.1.2.2.1 r.toInt.toNat - 1) s.toInt.toNat st else q.1.2.2.2.2), q.2.1, q.2.2.1, q.2.2.2.1, q.2.2.2.2.1, []))
  else (.inr eS, q)
section PWA
variable {l : Launch} {G : xG} {d : Nat} {h : xH} {x : Nat} {q : xQ}
theorem c_PW_pair {a b : Int32} (H : PS h x q) : xMet l G mPW_pair (d + 4) 1 6 [.ref x, .int a, .int b] h (fun o h' => o = (opPair q a b).1 ∧ PS h' x (opPair q a b).2 ∧ Fr h h' x) := by
  have H0 := H
  obtain ⟨o0, HE, HX, ⟨dy, HD⟩, HL, HU, HS, HR, HY, HB⟩ := H
  have o1 := HE.o1
  have o2 := HE.o2
  have hb := HE.b
  have Rc := HR
  obtain ⟨rf, r1, -⟩ := Rc
  have t14 : ¬ (sg0 a = true ∧ sg0 b = true) → Ex (l, G, d + 4, 1, 6, h, fun o h' => o = (opPair q a b).1 ∧ PS h' x (opPair q a b).2 ∧ Fr h h' x) mPW_pair 14 [some (.ref x), some (.int a), some (.int b), none] [] h 0 0 := by
    intro hn
    have e : opPair q a b = (.inr eA, q) := by unfold opPair; rw [if_pos hn]
    exact ex_throw dPW_pair_14 dPW_pair_17 dPW_pair_18 dPW_pair_20 dPW_pair_23 ox_83 rfl (by decide) (Nat.le_of_ble_eq_true rfl) (Nat.le_of_ble_eq_true rfl) ⟨by rw [e], by rw [e]; exact H0.bump, Fr.rf⟩
  have t24 : sg0 a = true → sg0 b = true → Ex (l, G, d + 4, 1, 6, h, fun o h' => o = (opPair q a b).1 ∧ PS h' x (opPair q a b).2 ∧ Fr h h' x) mPW_pair 24 [some (.ref x), some (.int a), some (.int b), none] [] h 0 0 := by
    intro ha hb9
    have ha' : 0 ≤ a.toInt ∧ a.toInt ≤ 7 := by simpa [sg0] using ha
    have hb' : 0 ≤ b.toInt ∧ b.toInt ≤ 7 := by simpa [sg0] using hb9
    have ea := iv_of ha'.1
    have eb := iv_of hb'.1
    have hi7 : a.toInt.toNat < 8 := by omega
    have hj7 : b.toInt.toNat < 8 := by omega
    have u1 : ∀ (p : Prop), opPair q a b = (if (a.toInt.toNat = 0 ∧ b.toInt.toNat = 0) ∨ (a.toInt.toNat, b.toInt.toNat) ∈ q.1.1 then (.inr eA, q) else if q.1.1.length < 10 ∧ (q.1.1.filter (fun z => z.1 == a.toInt.toNat)).length < (if a.toInt.toNat = 0 then 2 else 3) then (rI (nI q.1.1.length), ((q.1.1 ++ [(a.toInt.toNat, b.toInt.toNat)], q.1.2), q.2.1, q.2.2.1, q.2.2.2.1, q.2.2.2.2.1, [])) else (.inr eS, q)) := fun _ => by unfold opPair; rw [if_neg (fun z => z ⟨ha, hb9⟩)]
    have u1 := u1 True
    have za : a = 0 ↔ a.toInt.toNat = 0 := by rw [eq0]; omega
    have zb : b = 0 ↔ b.toInt.toNat = 0 := by rw [eq0]; omega
    generalize a.toInt.toNat = i at *
    generalize b.toInt.toNat = j at *
    have t44 : (i = 0 ∧ j = 0) ∨ (i, j) ∈ q.1.1 → Ex (l, G, d + 4, 1, 6, h, fun o h' => o = (opPair q a b).1 ∧ PS h' x (opPair q a b).2 ∧ Fr h h' x) mPW_pair 44 [some (.ref x), some (.int a), some (.int b), none] [] h 0 0 := by
      intro hn
      rw [if_pos hn] at u1
      exact ex_throw dPW_pair_44 dPW_pair_47 dPW_pair_48 dPW_pair_50 dPW_pair_53 ox_92 rfl (by decide) (Nat.le_of_ble_eq_true rfl) (Nat.le_of_ble_eq_true rfl) ⟨by rw [u1], by rw [u1]; exact H0.bump, Fr.rf⟩
    have t32 : ¬ (i = 0 ∧ j = 0) → Ex (l, G, d + 4, 1, 6, h, fun o h' => o = (opPair q a b).1 ∧ PS h' x (opPair q a b).2 ∧ Fr h h' x) mPW_pair 32 [some (.ref x), some (.int a), some (.int b), none] [] h 0 0 := by
      intro hz
      refine ex_aload_n dPW_pair_32 rfl ?_
      refine ex_get dPW_pair_33 fg_PW_12 o0 rfl ?_
      refine ex_iload_n dPW_pair_36 rfl ?_
      refine ex_iload_n dPW_pair_37 rfl ?_
      have em := c_Pairs_has (l := l) (G := G) (d := d) (x := i) (y := j) hi7 hj7 HE.1
      rw [← ea.1, ← eb.1] at em
      refine ex_v2 dPW_pair_38 iv_PW_88 cd_Pairs_has ar_Pairs_has o1 (em) (by dsimp only; omega) (Nat.le_of_ble_eq_true rfl) (Nat.zero_le _) (Nat.zero_le _) (fun E h9 q9 => by simp at q9) (fun v9 hp9 hq => ?_)
      obtain ⟨e, e1⟩ := hq
      cases e
      rw [e1]
      refine ex_if_eq (tgt := 54) dPW_pair_41 (by decide) (fun hc => ?_) (fun hc => ?_)
      · have hno : ¬ (i, j) ∈ q.1.1 := fun z => by rw [if_pos z] at hc; exact absurd hc (by decide)
        rw [if_neg (fun z => z.elim hz hno)] at u1
        refine ex_aload_n dPW_pair_54 rfl ?_
        refine ex_get dPW_pair_55 fg_PW_12 o0 rfl ?_
        refine ex_iload_n dPW_pair_58 rfl ?_
        have em2 := c_Pairs_hasRoomFor (l := l) (G := G) (d := d) (x := i) hi7 HE.1
        rw [← ea.1] at em2
        refine ex_v1 dPW_pair_59 iv_PW_94 cd_Pairs_hasRoomFor ar_Pairs_hasRoomFor o1 (em2) (by dsimp only; omega) (Nat.le_of_ble_eq_true rfl) (Nat.zero_le _) (Nat.zero_le _) (fun E h9 q9 => by simp at q9) (fun v8 hp8 hq => ?_)
        obtain ⟨e, e1⟩ := hq
        cases e
        rw [e1]
        refine ex_if_ne (tgt := 75) dPW_pair_62 (by decide) (fun hc2 => ?_) (fun hc2 => ?_)
        · have hrm : q.1.1.length < 10 ∧ (q.1.1.filter (fun z => z.1 == i)).length < (if i = 0 then 2 else 3) := by
            by_cases z : q.1.1.length < 10 ∧ (q.1.1.filter (fun z => z.1 == i)).length < (if i = 0 then 2 else 3)
            · exact z
            · rw [if_neg z] at hc2; exact absurd rfl hc2
          rw [if_pos hrm] at u1
          refine ex_aload_n dPW_pair_75 rfl ?_
          refine ex_get dPW_pair_76 fg_PW_52 o0 rfl ?_
          refine ex_v0 dPW_pair_79 iv_PW_102 cd_Resu_clear ar_Resu_clear r1 (c_Resu_clear (d := d) HR) (by dsimp only; omega) (Nat.le_of_ble_eq_true rfl) (Nat.zero_le _) (Nat.zero_le _) (fun E h9 q9 => by simp at q9) (fun v7 g1 hq => ?_)
          obtain ⟨e, R1, S1⟩ := hq
          cases e
          have k0 := (S1.2 x (by omega)).trans o0
          have k1 := (S1.2 (x + 1) (by omega)).trans o1
          have em3 := c_Pairs_add (l := l) (G := G) (d := d) (x := i) (y := j) hi7 hj7 hrm.1 (HE.1.sm S1 (by omega))
          rw [← ea.1, ← eb.1] at em3
          refine ex_aload_n dPW_pair_82 rfl ?_
          refine ex_get dPW_pair_83 fg_PW_12 k0 rfl ?_
          refine ex_iload_n dPW_pair_86 rfl ?_
          refine ex_iload_n dPW_pair_87 rfl ?_
          refine ex_v2 dPW_pair_88 iv_PW_105 cd_Pairs_add ar_Pairs_add k1 (em3) (by dsimp only; omega) (Nat.le_of_ble_eq_true rfl) (Nat.zero_le _) (Nat.zero_le _) (fun E h9 q9 => by simp at q9) (fun v6 g2 hq => ?_)
          obtain ⟨e, P2, S2⟩ := hq
          cases e
          have m0 := (S2.2 x (by omega)).trans k0
          have m2 := (S2.2 (x + 4) (by omega)).trans ((S1.2 (x + 4) (by omega)).trans o2)
          have hps : ∀ z ∈ q.1.2.1, z.2 < (q.1.1 ++ [(i, j)]).length := fun z hz => by have := HB.2.2.2.2 z hz; simp; omega
          refine ex_istore_n (L' := [_, _, _, _]) dPW_pair_91 (by decide) rfl ?_
          refine ex_aload_n dPW_pair_92 rfl ?_
          refine ex_get dPW_pair_93 fg_PW_19 m0 rfl ?_
          refine ex_aload_n dPW_pair_96 rfl ?_
          refine ex_get dPW_pair_97 fg_PW_12 m0 rfl ?_
          refine ex_v1 dPW_pair_100 iv_PW_109 cd_Rule_settle ar_Rule_settle m2 (c_Rule_settle (d := d) (a := x + 4) (b := x + 1) (by omega) hps ((HE.2.1.sm S1 (by omega)).sm S2 (by omega)) P2) (by dsimp only; omega) (Nat.le_of_ble_eq_true rfl) (Nat.zero_le _) (Nat.zero_le _) (fun E h9 q9 => by simp at q9) (fun v5 g3 hq => ?_)
          obtain ⟨e, P3, P4, S3⟩ := hq
          cases e
          have EQ : ∀ z : Nat, ((z < x + 1 ∨ x + 4 ≤ z) ∧ (z < x + 15 ∨ x + 17 ≤ z) ∧ (z < x + 79 ∨ x + 81 ≤ z)) → g3.2 z = h.2 z := fun z hz => (S3.2 z (by omega)).trans ((S2.2 z (by omega)).trans (S1.2 z (by omega)))
          refine ex_iload_n dPW_pair_103 rfl ?_
          refine ex_iret dPW_pair_104 rfl (Nat.zero_le _) (Nat.zero_le _) ⟨by rw [u1], ?_, fun z hz => EQ z (by omega)⟩
          rw [u1]
          exact ⟨(EQ _ (by omega)).trans o0, ⟨P2.sm S3 (by omega), P3, P4, Pt.fe HE.2.2.2.1 (fun z a b => EQ z (by omega)), Pt.fe HE.2.2.2.2 (fun z a b => EQ z (by omega))⟩, HX.fe (fun z a b => EQ z (by omega)), ⟨dy, HD.fd (fun z a => EQ z (by omega))⟩, HL.fe (fun z a b => EQ z (by omega)), HU.fe (fun z a b => EQ z (by omega)), HS.fe (fun z a b => EQ z (by omega)), (R1.sm S2 (by omega)).sm S3 (by omega), HY.eq (fun z a b => EQ z (by omega)), HB.1, HB.2.1, HB.2.2.1, HB.2.2.2.1, hps⟩
        · have hrm : ¬ (q.1.1.length < 10 ∧ (q.1.1.filter (fun z => z.1 == i)).length < (if i = 0 then 2 else 3)) := fun z => by rw [if_pos z] at hc2; exact absurd hc2 (by decide)
          rw [if_neg hrm] at u1
          exact ex_throw dPW_pair_65 dPW_pair_68 dPW_pair_69 dPW_pair_71 dPW_pair_74 ox_99 rfl (by decide) (Nat.le_of_ble_eq_true rfl) (Nat.le_of_ble_eq_true rfl) ⟨by rw [u1], by rw [u1]; exact H0.bump, Fr.rf⟩
      · have hno : (i, j) ∈ q.1.1 := by
          by_cases z : (i, j) ∈ q.1.1
          · exact z
          · rw [if_neg z] at hc; exact absurd rfl hc
        exact t44 (Or.inr hno)
    refine ex_iload_n dPW_pair_24 rfl ?_
    refine ex_if_ne (tgt := 32) dPW_pair_25 (by decide) (fun hc => ?_) (fun hc => ?_)
    · exact t32 (fun z => hc (za.mpr z.1))
    refine ex_iload_n dPW_pair_28 rfl ?_
    refine ex_if_eq (tgt := 44) dPW_pair_29 (by decide) (fun hc2 => ?_) (fun hc2 => ?_)
    · exact t44 (Or.inl ⟨za.mp hc, zb.mp hc2⟩)
    · exact t32 (fun z => hc2 (zb.mpr z.2))
  refine xMet_of (L := [_, _, _, _]) (by decide) (Nat.le_of_ble_eq_true rfl) rfl ?_
  refine ex_iload_n dPW_pair_0 rfl ?_
  refine ex_s1 dPW_pair_1 is_PW_77 cd_PW_isSignOrEmpty ar_PW_isSignOrEmpty (c_PW_isSignOrEmpty (d := d) (a := a)) (by dsimp only; omega) (Nat.le_of_ble_eq_true rfl) (Nat.zero_le _) (Nat.zero_le _) (fun E h9 q9 => by simp at q9) (fun v9 hp9 hq => ?_)
  obtain ⟨e, e1⟩ := hq
  cases e
  rw [e1]
  refine ex_if_eq (tgt := 14) dPW_pair_4 (by decide) (fun hc => ?_) (fun hc => ?_)
  · exact t14 (fun z => by rw [bI_0.mp hc] at z; exact absurd z.1 (by decide))
  refine ex_iload_n dPW_pair_7 rfl ?_
  refine ex_s1 dPW_pair_8 is_PW_77 cd_PW_isSignOrEmpty ar_PW_isSignOrEmpty (c_PW_isSignOrEmpty (d := d) (a := b)) (by dsimp only; omega) (Nat.le_of_ble_eq_true rfl) (Nat.zero_le _) (Nat.zero_le _) (fun E h9 q9 => by simp at q9) (fun v8 hp8 hq => ?_)
  obtain ⟨e, e1⟩ := hq
  cases e
  rw [e1]
  refine ex_if_ne (tgt := 24) dPW_pair_11 (by decide) (fun hc2 => ?_) (fun hc2 => ?_)
  · exact t24 (bI_1 hc) (bI_1 hc2)
  · exact t14 (fun z => by rw [bI_0.mp hc2] at z; exact absurd z.2 (by decide))
theorem c_PW_rule {k p : Int32} (H : PS h x q) : xMet l G mPW_rule (d + 4) 1 6 [.ref x, .int k, .int p] h (fun o h' => o = (opRule q k p).1 ∧ PS h' x (opRule q k p).2 ∧ Fr h h' x) := by
  have H0 := H
  obtain ⟨o0, HE, HX, ⟨dy, HD⟩, HL, HU, HS, HR, HY, HB⟩ := H
  have o1 := HE.o1
  have o2 := HE.o2
  have hb := HE.b
  have Rc := HR
  obtain ⟨rf, r1, -⟩ := Rc
  have t24 : ¬ (0 ≤ k.toInt ∧ k.toInt < 4 ∧ 0 ≤ p.toInt ∧ p.toInt < q.1.1.length) → Ex (l, G, d + 4, 1, 6, h, fun o h' => o = (opRule q k p).1 ∧ PS h' x (opRule q k p).2 ∧ Fr h h' x) mPW_rule 24 [some (.ref x), some (.int k), some (.int p), none] [] h 0 0 := by
    intro hn
    have e : opRule q k p = (.inr eA, q) := by unfold opRule; rw [if_pos hn]
    exact ex_throw dPW_rule_24 dPW_rule_27 dPW_rule_28 dPW_rule_30 dPW_rule_33 ox_117 rfl (by decide) (Nat.le_of_ble_eq_true rfl) (Nat.le_of_ble_eq_true rfl) ⟨by rw [e], by rw [e]; exact H0.bump, Fr.rf⟩
  refine xMet_of (L := [_, _, _, _]) (by decide) (Nat.le_of_ble_eq_true rfl) rfl ?_
  refine ex_iload_n dPW_rule_0 rfl ?_
  refine ex_if_lt (tgt := 24) dPW_rule_1 (by decide) (fun hc => ?_) (fun hc => ?_)
  · rw [lt0] at hc; exact t24 (by omega)
  rw [lt0] at hc
  refine ex_iload_n dPW_rule_4 rfl ?_
  refine ex_iconst (v := nI 4) dPW_rule_5 (by decide) ?_
  refine ex_icmp_ge (tgt := 24) dPW_rule_6 (by decide) (fun hc2 => ?_) (fun hc2 => ?_)
  · rw [Nle (by omega)] at hc2; exact t24 (by omega)
  rw [Nle (by omega)] at hc2
  refine ex_iload_n dPW_rule_9 rfl ?_
  refine ex_if_lt (tgt := 24) dPW_rule_10 (by decide) (fun hc3 => ?_) (fun hc3 => ?_)
  · rw [lt0] at hc3; exact t24 (by omega)
  rw [lt0] at hc3
  refine ex_iload_n dPW_rule_13 rfl ?_
  refine ex_aload_n dPW_rule_14 rfl ?_
  refine ex_get dPW_rule_15 fg_PW_12 o0 rfl ?_
  refine ex_v0 dPW_rule_18 iv_PW_113 cd_Pairs_count ar_Pairs_count o1 (c_Pairs_count (d := d) HE.1) (by dsimp only; omega) (Nat.le_of_ble_eq_true rfl) (Nat.zero_le _) (Nat.zero_le _) (fun E h9 q9 => by simp at q9) (fun v9 hp9 hq => ?_)
  obtain ⟨e, e1⟩ := hq
  cases e
  rw [e1]
  refine ex_icmp_lt (tgt := 34) dPW_rule_21 (by decide) (fun hc4 => ?_) (fun hc4 => ?_)
  · rw [ltN (by omega)] at hc4
    have ek := iv_of (a := k) (by omega)
    have ep := iv_of (a := p) (by omega)
    have hk4 : k.toInt.toNat < 4 := by omega
    have hp4 : p.toInt.toNat < q.1.1.length := by omega
    have u1 : opRule q k p = (if q.1.2.1.length < 4 then (rI (nI q.1.2.1.length), ((q.1.1, q.1.2.1 ++ [(k.toInt.toNat, p.toInt.toNat)], q.1.2.2), q.2.1, q.2.2.1, q.2.2.2.1, q.2.2.2.2.1, [])) else (.inr eS, q)) := by unfold opRule; rw [if_neg (fun z => z ⟨by omega, by omega, by omega, hc4⟩)]
    generalize k.toInt.toNat = i at *
    generalize p.toInt.toNat = j at *
    refine ex_aload_n dPW_rule_34 rfl ?_
    refine ex_get dPW_rule_35 fg_PW_19 o0 rfl ?_
    refine ex_v0 dPW_rule_38 iv_PW_119 cd_Rule_count ar_Rule_count o2 (c_Rule_count (d := d) HE.2.1) (by dsimp only; omega) (Nat.le_of_ble_eq_true rfl) (Nat.zero_le _) (Nat.zero_le _) (fun E h9 q9 => by simp at q9) (fun v8 hp8 hq => ?_)
    obtain ⟨e, e1⟩ := hq
    cases e
    rw [e1]
    refine ex_iconst (v := nI 4) dPW_rule_41 (by decide) ?_
    refine ex_icmp_lt (tgt := 55) dPW_rule_42 (by decide) (fun hc5 => ?_) (fun hc5 => ?_)
    · rw [nI_ltI (by omega) (by omega)] at hc5
      rw [if_pos hc5] at u1
      refine ex_aload_n dPW_rule_55 rfl ?_
      refine ex_get dPW_rule_56 fg_PW_52 o0 rfl ?_
      refine ex_v0 dPW_rule_59 iv_PW_102 cd_Resu_clear ar_Resu_clear r1 (c_Resu_clear (d := d) HR) (by dsimp only; omega) (Nat.le_of_ble_eq_true rfl) (Nat.zero_le _) (Nat.zero_le _) (fun E h9 q9 => by simp at q9) (fun v7 g1 hq => ?_)
      obtain ⟨e, R1, S1⟩ := hq
      cases e
      have k0 := (S1.2 x (by omega)).trans o0
      have k2 := (S1.2 (x + 4) (by omega)).trans o2
      have em3 := c_Rule_add (l := l) (G := G) (d := d) (k := i) (p := j) hk4 (by omega) hc5 (HE.2.1.sm S1 (by omega))
      rw [← ek.1, ← ep.1] at em3
      refine ex_aload_n dPW_rule_62 rfl ?_
      refine ex_get dPW_rule_63 fg_PW_19 k0 rfl ?_
      refine ex_iload_n dPW_rule_66 rfl ?_
      refine ex_iload_n dPW_rule_67 rfl ?_
      refine ex_v2 dPW_rule_68 iv_PW_122 cd_Rule_add ar_Rule_add k2 (em3) (by dsimp only; omega) (Nat.le_of_ble_eq_true rfl) (Nat.zero_le _) (Nat.zero_le _) (fun E h9 q9 => by simp at q9) (fun v6 g2 hq => ?_)
      obtain ⟨e, P2, S2, N2⟩ := hq
      cases e
      have m0 := (S2.2 x (by omega)).trans k0
      have m2 := P2.1
      have HP2 := (HE.1.sm S1 (by omega)).sm S2 (by omega)
      have hps : ∀ z ∈ q.1.2.1 ++ [(i, j)], z.2 < q.1.1.length := fun z hz => by
        rcases List.mem_append.mp hz with z1 | z1
        · exact HB.2.2.2.2 z z1
        · rw [List.mem_singleton.mp z1]; exact hp4
      refine ex_istore_n (L' := [_, _, _, _]) dPW_rule_71 (by decide) rfl ?_
      refine ex_aload_n dPW_rule_72 rfl ?_
      refine ex_get dPW_rule_73 fg_PW_19 m0 rfl ?_
      refine ex_aload_n dPW_rule_76 rfl ?_
      refine ex_get dPW_rule_77 fg_PW_12 m0 rfl ?_
      refine ex_v1 dPW_rule_80 iv_PW_109 cd_Rule_settle ar_Rule_settle m2 (c_Rule_settle (d := d) (a := x + 4) (b := x + 1) (by omega) hps P2 HP2) (by dsimp only; omega) (Nat.le_of_ble_eq_true rfl) (Nat.zero_le _) (Nat.zero_le _) (fun E h9 q9 => by simp at q9) (fun v5 g3 hq => ?_)
      obtain ⟨e, P3, P4, S3⟩ := hq
      cases e
      have EQ : ∀ z : Nat, ((z < x + 4 ∨ x + 17 ≤ z ∨ (x + 5 ≤ z ∧ z < x + 11)) ∧ (z < x + 79 ∨ x + 81 ≤ z)) → g3.2 z = h.2 z := fun z hz => (S3.2 z (by omega)).trans (Eq.trans (by
        by_cases z9 : x + 5 ≤ z ∧ z < x + 11
        · exact N2 z (by omega) (by omega)
        · exact S2.2 z (by omega)) (S1.2 z (by omega)))
      refine ex_iload_n dPW_rule_83 rfl ?_
      refine ex_iret dPW_rule_84 rfl (Nat.zero_le _) (Nat.zero_le _) ⟨by rw [u1], ?_, fun z hz => EQ z (by omega)⟩
      rw [u1]
      exact ⟨(EQ _ (by omega)).trans o0, ⟨HP2.sm S3 (by omega), P3, P4, Pt.fe HE.2.2.2.1 (fun z a b => EQ z (by omega)), Pt.fe HE.2.2.2.2 (fun z a b => EQ z (by omega))⟩, HX.fe (fun z a b => EQ z (by omega)), ⟨dy, HD.fd (fun z a => EQ z (by omega))⟩, HL.fe (fun z a b => EQ z (by omega)), HU.fe (fun z a b => EQ z (by omega)), HS.fe (fun z a b => EQ z (by omega)), (R1.sm S2 (by omega)).sm S3 (by omega), HY.eq (fun z a b => EQ z (by omega)), HB.1, HB.2.1, HB.2.2.1, HB.2.2.2.1, hps⟩
    · rw [nI_ltI (by omega) (by omega)] at hc5
      rw [if_neg hc5] at u1
      exact ex_throw dPW_rule_45 dPW_rule_48 dPW_rule_49 dPW_rule_51 dPW_rule_54 ox_120 rfl (by decide) (Nat.le_of_ble_eq_true rfl) (Nat.le_of_ble_eq_true rfl) ⟨by rw [u1], by rw [u1]; exact H0.bump, Fr.rf⟩
  · rw [ltN (by omega)] at hc4; exact t24 (by omega)
theorem c_PW_context {r : Int32} {t1 t2 : Bool} (H : PS h x q) : xMet l G mPW_context (d + 4) 1 6 [.ref x, .int r, .int (bI t1), .int (bI t2)] h (fun o h' => o = (opCtx q r t1 t2).1 ∧ PS h' x (opCtx q r t1 t2).2 ∧ Fr h h' x) := by
  have H0 := H
  obtain ⟨o0, HE, HX, ⟨dy, HD⟩, HL, HU, HS, HR, HY, HB⟩ := H
  have o1 := HE.o1
  have o2 := HE.o2
  have hb := HE.b
  have Rc := HR
  obtain ⟨rf, r1, -⟩ := Rc
  have t15 : ¬ (0 ≤ r.toInt ∧ r.toInt < q.1.2.1.length) → Ex (l, G, d + 4, 1, 6, h, fun o h' => o = (opCtx q r t1 t2).1 ∧ PS h' x (opCtx q r t1 t2).2 ∧ Fr h h' x) mPW_context 15 [some (.ref x), some (.int r), some (.int (bI t1)), some (.int (bI t2))] [] h 0 0 := by
    intro hn
    have e : opCtx q r t1 t2 = (.inr eA, q) := by unfold opCtx; rw [if_pos hn]
    exact ex_throw dPW_context_15 dPW_context_18 dPW_context_19 dPW_context_21 dPW_context_24 ox_123 rfl (by decide) (Nat.le_of_ble_eq_true rfl) (Nat.le_of_ble_eq_true rfl) ⟨by rw [e], by rw [e]; exact H0.bump, Fr.rf⟩
  refine xMet_of (L := [_, _, _, _]) (by decide) (Nat.le_of_ble_eq_true rfl) rfl ?_
  refine ex_iload_n dPW_context_0 rfl ?_
  refine ex_if_lt (tgt := 15) dPW_context_1 (by decide) (fun hc => ?_) (fun hc => ?_)
  · rw [lt0] at hc; exact t15 (by omega)
  rw [lt0] at hc
  refine ex_iload_n dPW_context_4 rfl ?_
  refine ex_aload_n dPW_context_5 rfl ?_
  refine ex_get dPW_context_6 fg_PW_19 o0 rfl ?_
  refine ex_v0 dPW_context_9 iv_PW_119 cd_Rule_count ar_Rule_count o2 (c_Rule_count (d := d) HE.2.1) (by dsimp only; omega) (Nat.le_of_ble_eq_true rfl) (Nat.zero_le _) (Nat.zero_le _) (fun E h9 q9 => by simp at q9) (fun v9 hp9 hq => ?_)
  obtain ⟨e, e1⟩ := hq
  cases e
  rw [e1]
  refine ex_icmp_lt (tgt := 25) dPW_context_12 (by decide) (fun hc4 => ?_) (fun hc4 => ?_)
  · rw [ltN (by omega)] at hc4
    have er := iv_of (a := r) (by omega)
    have hr4 : r.toInt.toNat < 4 := by omega
    have u1 : opCtx q r t1 t2 = (if q.1.2.2.1 r.toInt.toNat < 2 then (rI (nI (q.1.2.2.1 r.toInt.toNat + 1)), ((q.1.1, q.1.2.1, va_up q.1.2.2.1 r.toInt.toNat (q.1.2.2.1 r.toInt.toNat + 1), ptOpen q.1.2.2.2.1 (2 * r.toInt.toNat + q.1.2.2.1 r.toInt.toNat) t1, ptOpen q.1.2.2.2.2 (2 * r.toInt.toNat + q.1.2.2.1 r.toInt.toNat) t2), q.2.1, q.2.2.1, q.2.2.2.1, q.2.2.2.2.1, [])) else (.inr eS, q)) := by unfold opCtx; rw [if_neg (fun z => z ⟨by omega, hc4⟩)]
    generalize r.toInt.toNat = i at *
    have hcx := HE.2.1.2.2.2.2.2.2.2.2.1 i hr4
    have em2 := c_Rule_contextsOf (l := l) (G := G) (d := d) (r := i) hr4 HE.2.1
    rw [← er.1] at em2
    refine ex_aload_n dPW_context_25 rfl ?_
    refine ex_get dPW_context_26 fg_PW_19 o0 rfl ?_
    refine ex_iload_n dPW_context_29 rfl ?_
    refine ex_v1 dPW_context_30 iv_PW_125 cd_Rule_contextsOf ar_Rule_contextsOf o2 (em2) (by dsimp only; omega) (Nat.le_of_ble_eq_true rfl) (Nat.zero_le _) (Nat.zero_le _) (fun E h9 q9 => by simp at q9) (fun v8 hp8 hq => ?_)
    obtain ⟨e, e1⟩ := hq
    cases e
    rw [e1]
    refine ex_iconst (v := nI 2) dPW_context_33 (by decide) ?_
    refine ex_icmp_lt (tgt := 47) dPW_context_34 (by decide) (fun hc5 => ?_) (fun hc5 => ?_)
    · rw [nI_ltI (by omega) (by omega)] at hc5
      rw [if_pos hc5] at u1
      refine ex_aload_n dPW_context_47 rfl ?_
      refine ex_get dPW_context_48 fg_PW_52 o0 rfl ?_
      refine ex_v0 dPW_context_51 iv_PW_102 cd_Resu_clear ar_Resu_clear r1 (c_Resu_clear (d := d) HR) (by dsimp only; omega) (Nat.le_of_ble_eq_true rfl) (Nat.zero_le _) (Nat.zero_le _) (fun E h9 q9 => by simp at q9) (fun v7 g1 hq => ?_)
      obtain ⟨e, R1, S1⟩ := hq
      cases e
      have k0 := (S1.2 x (by omega)).trans o0
      have k2 := (S1.2 (x + 4) (by omega)).trans o2
      have em3 := c_Rule_addContext (l := l) (G := G) (d := d) (r := i) (t1 := t1) (t2 := t2) hr4 hc5 (HE.2.1.sm S1 (by omega)) (Pt.sm HE.2.2.2.1 S1 (by omega)) (Pt.sm HE.2.2.2.2 S1 (by omega))
      rw [← er.1] at em3
      refine ex_aload_n dPW_context_54 rfl ?_
      refine ex_get dPW_context_55 fg_PW_19 k0 rfl ?_
      refine ex_iload_n dPW_context_58 rfl ?_
      refine ex_iload_n dPW_context_59 rfl ?_
      refine ex_iload_n dPW_context_60 rfl ?_
      refine ex_v3 dPW_context_61 iv_PW_131 cd_Rule_addContext ar_Rule_addContext k2 (em3) (by dsimp only; omega) (Nat.le_of_ble_eq_true rfl) (Nat.zero_le _) (Nat.zero_le _) (fun E h9 q9 => by simp at q9) (fun v6 g2 hq => ?_)
      obtain ⟨e, P2, P3, P4, S2⟩ := hq
      cases e
      have EQ : ∀ z : Nat, ((z < x + 4 ∨ x + 15 ≤ z) ∧ (z < x + 79 ∨ x + 81 ≤ z)) → g2.2 z = h.2 z := fun z hz => (S2.2 z (by omega)).trans (S1.2 z (by omega))
      refine ex_iret dPW_context_64 rfl (Nat.zero_le _) (Nat.zero_le _) ⟨by rw [u1], ?_, fun z hz => EQ z (by omega)⟩
      rw [u1]
      exact ⟨(EQ _ (by omega)).trans o0, ⟨HE.1.fe (fun z a b => EQ z (by omega)), P2, ⟨HE.2.2.1.1.at (EQ _ (by omega)), HE.2.2.1.2.at (EQ _ (by omega))⟩, P3, P4⟩, HX.fe (fun z a b => EQ z (by omega)), ⟨dy, HD.fd (fun z a => EQ z (by omega))⟩, HL.fe (fun z a b => EQ z (by omega)), HU.fe (fun z a b => EQ z (by omega)), HS.fe (fun z a b => EQ z (by omega)), R1.sm S2 (by omega), HY.eq (fun z a b => EQ z (by omega)), HB⟩
    · rw [nI_ltI (by omega) (by omega)] at hc5
      rw [if_neg hc5] at u1
      exact ex_throw dPW_context_37 dPW_context_40 dPW_context_41 dPW_context_43 dPW_context_46 ox_129 rfl (by decide) (Nat.le_of_ble_eq_true rfl) (Nat.le_of_ble_eq_true rfl) ⟨by rw [u1], by rw [u1]; exact H0.bump, Fr.rf⟩
  · rw [ltN (by omega)] at hc4; exact t15 (by omega)
end PWA
