/-! PairedWords: element, entry, spell, type, wipe, belong, blame, sample, check. -/
theorem PS.cmp {h g : xH} {x : Nat} {q : xQ} {c : Bool × Bool × Nat} (H : PS h x q) (HC : Ci g (x + 83) x c) (S : Sm h g (x + 83) (x + 90)) : PS g x q := by
  obtain ⟨o0, HE, HX, ⟨dy, HD⟩, HL, HU, HS, HR, HY, HB⟩ := H
  obtain ⟨d1, d2, d3, -, -⟩ := HD
  exact ⟨(S.2 _ (by omega)).trans o0, HE.sm S (by omega), HX.sm S (by omega), ⟨dy, d1.at (S.2 _ (by omega)), d2.sm S (by omega), d3.sm S (by omega), c, HC⟩, HL.sm S (by omega), HU.sm S (by omega), HS.sm S (by omega), HR.sm S (by omega), HY.eq (fun z a b => S.2 z (by omega)), HB⟩
theorem getD_set {α : Type} {l : List α} {i j : Nat} {v d : α} (hi : i < l.length) : (l.set i v).getD j d = if j = i then v else l.getD j d := by
  rw [List.getD_eq_getElem?_getD, List.getD_eq_getElem?_getD, List.getElem?_set]
  by_cases e : i = j
  · subst e; simp [hi]
  · rw [if_neg e, if_neg (fun z => e z.symm)]
def opEntry (q : xQ) (p n : Int32) : xO × xQ :=
  if ¬ (pt4 p = true ∧ (pt4 n = true ∨ n = -1)) then (.inr eA, q)
  else if q.2.1.length < 8 then (rI (nI q.2.1.length), (q.1, q.2.1 ++ [(p.toInt.toNat, if n = -1 then none else some n.toInt.toNat, [])], q.2.2.1, q.2.2.2.1, q.2.2.2.2.1, []))
  else (.inr eS, q)
def esAdd (es : List xEn) (e z : Nat) : List xEn := es.set e ((es.getD e en0).1, (es.getD e en0).2.1, (es.getD e en0).2.2 ++ [z])
def opSpell (q : xQ) (e z : Int32) : xO × xQ :=
  if ¬ (0 ≤ e.toInt ∧ e.toInt < q.2.1.length ∧ sg1 z = true) then (.inr eA, q)
  else if (esg q.2.1 e.toInt.toNat).length < 3 then (rI (nI ((esg q.2.1 e.toInt.toNat).length + 1)), (q.1, esAdd q.2.1 e.toInt.toNat z.toInt.toNat, q.2.2.1, q.2.2.2.1, q.2.2.2.2.1, []))
  else (.inr eS, q)
def opType (q : xQ) (up : Bool) (z : Int32) : xO × xQ :=
  if ¬ sg1 z = true then (.inr eA, q)
  else if up then (if q.2.2.2.1.length < 5 then (rI (nI (q.2.2.2.1.length + 1)), (q.1, q.2.1, q.2.2.1, q.2.2.2.1 ++ [z.toInt.toNat], q.2.2.2.2)) else (.inr eS, q))
  else (if q.2.2.1.length < 4 then (rI (nI (q.2.2.1.length + 1)), (q.1, q.2.1, q.2.2.1 ++ [z.toInt.toNat], q.2.2.2)) else (.inr eS, q))
def opWipe (q : xQ) (up : Bool) : xO × xQ := if up then (rI (nI q.2.2.2.1.length), (q.1, q.2.1, q.2.2.1, [], q.2.2.2.2)) else (rI (nI q.2.2.1.length), (q.1, q.2.1, [], q.2.2.2))
def opBelong (q : xQ) : xO × xQ := (rI (bI (cmp q.1 q.2.2.1 q.2.2.2.1).2.1), q)
def opBlame (q : xQ) : xO × xQ := (rI (culp (cmp q.1 q.2.2.1 q.2.2.2.1)), q)
def opSample (q : xQ) : xO × xQ := if q.2.2.2.2.1.length < 8 then (rI (nI q.2.2.2.2.1.length), (q.1, q.2.1, q.2.2.1, q.2.2.2.1, q.2.2.2.2.1 ++ [(q.2.2.1, q.2.2.2.1)], q.2.2.2.2.2)) else (.inr eS, q)
def chk (W : xW) (ss : List (List Nat × List Nat)) : Nat → Nat → Int32
  | 0, _ => -1
  | j + 1, i => if (cmp W (ss.getD i ([], [])).1 (ss.getD i ([], [])).2).2.1 then chk W ss j (i + 1) else nI i
def opCheck (q : xQ) : xO × xQ := (rI (chk q.1 q.2.2.2.2.1 q.2.2.2.2.1.length 0), q)
theorem snoc_lt {w : List Nat} {z : Nat} (hw : ∀ i, w.getD i 0 < 8) (hz : z < 8) (i : Nat) : (w ++ [z]).getD i 0 < 8 := by
  by_cases e : i = w.length
  · subst e; rw [getD_snoc]; exact hz
  · rw [getD_snoc' e]; exact hw i
section PWB
variable {l : Launch} {G : xG} {d : Nat} {h : xH} {x : Nat} {q : xQ}
theorem c_PW_element {r s : Int32} {bh st : Bool} (H : PS h x q) : xMet l G mPW_element (d + 4) 1 6 [.ref x, .int r, .int (bI bh), .int s, .int (bI st)] h (fun o h' => o = (opEl q r bh s st).1 ∧ PS h' x (opEl q r bh s st).2 ∧ Fr h h' x) := by
  have H0 := H
  obtain ⟨o0, HE, HX, ⟨dy, HD⟩, HL, HU, HS, HR, HY, HB⟩ := H
  have o1 := HE.o1
  have o2 := HE.o2
  have hb := HE.b
  have Rc := HR
  obtain ⟨rf, r1, -⟩ := Rc
  have t15 : ¬ (0 ≤ r.toInt ∧ r.toInt < q.1.2.1.length) → Ex (l, G, d + 4, 1, 6, h, fun o h' => o = (opEl q r bh s st).1 ∧ PS h' x (opEl q r bh s st).2 ∧ Fr h h' x) mPW_element 15 [some (.ref x), some (.int r), some (.int (bI bh)), some (.int s), some (.int (bI st)), none, none] [] h 0 0 := by
    intro hn
    have e : opEl q r bh s st = (.inr eA, q) := by unfold opEl; rw [if_pos hn]
    exact ex_throw dPW_element_15 dPW_element_18 dPW_element_19 dPW_element_21 dPW_element_24 ox_123 rfl (by decide) (Nat.le_of_ble_eq_true rfl) (Nat.le_of_ble_eq_true rfl) ⟨by rw [e], by rw [e]; exact H0.bump, Fr.rf⟩
  have t42 : 0 ≤ r.toInt ∧ r.toInt < q.1.2.1.length → ¬ (0 ≤ s.toInt ∧ s.toInt.toNat < 2 ^ q.1.1.length) → Ex (l, G, d + 4, 1, 6, h, fun o h' => o = (opEl q r bh s st).1 ∧ PS h' x (opEl q r bh s st).2 ∧ Fr h h' x) mPW_element 42 [some (.ref x), some (.int r), some (.int (bI bh)), some (.int s), some (.int (bI st)), none, none] [] h 0 0 := by
    intro hr hn
    have e : opEl q r bh s st = (.inr eA, q) := by unfold opEl; rw [if_neg (fun z => z hr), if_pos hn]
    exact ex_throw dPW_element_42 dPW_element_45 dPW_element_46 dPW_element_48 dPW_element_51 ox_135 rfl (by decide) (Nat.le_of_ble_eq_true rfl) (Nat.le_of_ble_eq_true rfl) ⟨by rw [e], by rw [e]; exact H0.bump, Fr.rf⟩
  have hpw : 2 ^ q.1.1.length ≤ 2 ^ 10 := Nat.pow_le_pow_right (by omega) hb.1
  refine xMet_of (L := [_, _, _, _, _, _, _]) (by decide) (Nat.le_of_ble_eq_true rfl) rfl ?_
  refine ex_iload_n dPW_element_0 rfl ?_
  refine ex_if_lt (tgt := 15) dPW_element_1 (by decide) (fun hc => ?_) (fun hc => ?_)
  · rw [lt0] at hc; exact t15 (by omega)
  rw [lt0] at hc
  refine ex_iload_n dPW_element_4 rfl ?_
  refine ex_aload_n dPW_element_5 rfl ?_
  refine ex_get dPW_element_6 fg_PW_19 o0 rfl ?_
  refine ex_v0 dPW_element_9 iv_PW_119 cd_Rule_count ar_Rule_count o2 (c_Rule_count (d := d) HE.2.1) (by dsimp only; omega) (Nat.le_of_ble_eq_true rfl) (Nat.zero_le _) (Nat.zero_le _) (fun E h9 q9 => by simp at q9) (fun v9 hp9 hq => ?_)
  obtain ⟨e, e1⟩ := hq
  cases e
  rw [e1]
  refine ex_icmp_lt (tgt := 25) dPW_element_12 (by decide) (fun hc2 => ?_) (fun hc2 => ?_)
  rotate_left
  · rw [ltN (by omega)] at hc2; exact t15 (by omega)
  rw [ltN (by omega)] at hc2
  have hr : 0 ≤ r.toInt ∧ r.toInt < q.1.2.1.length := ⟨by omega, hc2⟩
  refine ex_iload_n dPW_element_25 rfl ?_
  refine ex_if_lt (tgt := 42) dPW_element_26 (by decide) (fun hc3 => ?_) (fun hc3 => ?_)
  · rw [lt0] at hc3; exact t42 hr (by omega)
  rw [lt0] at hc3
  refine ex_iload_n dPW_element_29 rfl ?_
  refine ex_iconst (v := nI 1) dPW_element_30 (by decide) ?_
  refine ex_aload_n dPW_element_31 rfl ?_
  refine ex_get dPW_element_32 fg_PW_12 o0 rfl ?_
  refine ex_v0 dPW_element_35 iv_PW_113 cd_Pairs_count ar_Pairs_count o1 (c_Pairs_count (d := d) HE.1) (by dsimp only; omega) (Nat.le_of_ble_eq_true rfl) (Nat.zero_le _) (Nat.zero_le _) (fun E h9 q9 => by simp at q9) (fun v8 hp8 hq => ?_)
  obtain ⟨e, e1⟩ := hq
  cases e
  rw [e1]
  refine ex_ishl dPW_element_38 ?_
  rw [nb_shl (a := 1) (by omega) (by omega), Nat.one_shiftLeft]
  refine ex_icmp_lt (tgt := 52) dPW_element_39 (by decide) (fun hc4 => ?_) (fun hc4 => ?_)
  rotate_left
  · rw [ltN (by omega)] at hc4; exact t42 hr (by omega)
  rw [ltN (by omega)] at hc4
  have es := iv_of (a := s) (by omega)
  have er := iv_of (a := r) (by omega)
  have hr4 : r.toInt.toNat < 4 := by omega
  have hs10 : s.toInt.toNat < 2 ^ 10 := by omega
  have hcx := HE.2.1.2.2.2.2.2.2.2.2.1 r.toInt.toNat hr4
  have h9 := HE.2.1.2.2.2.1
  obtain ⟨fc, h4, e4⟩ := h9
  have em2 := c_Rule_contextsOf (l := l) (G := G) (d := d) (r := r.toInt.toNat) hr4 HE.2.1
  rw [← er.1] at em2
  refine ex_aload_n dPW_element_52 rfl ?_
  refine ex_get dPW_element_53 fg_PW_19 o0 rfl ?_
  refine ex_iload_n dPW_element_56 rfl ?_
  refine ex_v1 dPW_element_57 iv_PW_125 cd_Rule_contextsOf ar_Rule_contextsOf o2 (em2) (by dsimp only; omega) (Nat.le_of_ble_eq_true rfl) (Nat.zero_le _) (Nat.zero_le _) (fun E h9 q9 => by simp at q9) (fun v7 hp7 hq => ?_)
  obtain ⟨e, e1⟩ := hq
  cases e
  rw [e1]
  refine ex_if_ne (tgt := 73) dPW_element_60 (by decide) (fun hc5 => ?_) (fun hc5 => ?_)
  rotate_left
  · have hz : q.1.2.2.1 r.toInt.toNat = 0 := (nI_eq (b := 0) (by omega) (by omega)).mp hc5
    have e : opEl q r bh s st = (.inr eS, q) := by unfold opEl; rw [if_neg (fun z => z hr), if_neg (fun z => z ⟨by omega, by omega⟩), if_pos hz]
    exact ex_throw dPW_element_63 dPW_element_66 dPW_element_67 dPW_element_69 dPW_element_72 ox_137 rfl (by decide) (Nat.le_of_ble_eq_true rfl) (Nat.le_of_ble_eq_true rfl) ⟨by rw [e], by rw [e]; exact H0.bump, Fr.rf⟩
  have hz : ¬ q.1.2.2.1 r.toInt.toNat = 0 := fun z => hc5 (by rw [z]; rfl)
  have em3 := c_Rule_latestContextOf (l := l) (G := G) (d := d) (r := r.toInt.toNat) (c := q.1.2.2.1 r.toInt.toNat) hr4 o2 h4 (e4 _ hr4) (by omega)
  rw [← er.1] at em3
  refine ex_aload_n dPW_element_73 rfl ?_
  refine ex_get dPW_element_74 fg_PW_19 o0 rfl ?_
  refine ex_iload_n dPW_element_77 rfl ?_
  refine ex_v1 dPW_element_78 iv_PW_139 cd_Rule_latestContextOf ar_Rule_latestContextOf o2 (em3) (by dsimp only; omega) (Nat.le_of_ble_eq_true rfl) (Nat.zero_le _) (Nat.zero_le _) (fun E h9 q9 => by simp at q9) (fun v6 hp6 hq => ?_)
  obtain ⟨e, e1⟩ := hq
  cases e
  rw [e1]
  refine ex_istore (L' := [_, _, _, _, _, _, _]) dPW_element_81 (by decide) rfl ?_
  refine ex_iload_n dPW_element_83 rfl ?_
  cases bh with
  | true =>
    refine ex_if_eq (tgt := 97) dPW_element_84 (by decide) (fun hc6 => ?_) (fun hc6 => ?_)
    · exact absurd hc6 (by decide)
    have u1 : opEl q r true s st = (if q.1.2.2.2.2.1 (2 * r.toInt.toNat + q.1.2.2.1 r.toInt.toNat - 1) < 2 then (rI (nI (q.1.2.2.2.2.1 (2 * r.toInt.toNat + q.1.2.2.1 r.toInt.toNat - 1) + 1)), ((q.1.1, q.1.2.1, q.1.2.2.1, q.1.2.2.2.1, ptAdd false q.1.2.2.2.2 (2 * r.toInt.toNat + q.1.2.2.1 r.toInt.toNat - 1) s.toInt.toNat st), q.2.1, q.2.2.1, q.2.2.2.1, q.2.2.2.2.1, [])) else (.inr eS, q)) := by unfold opEl; rw [if_neg (fun z => z hr), if_neg (fun z => z ⟨by omega, by omega⟩), if_neg hz]; rfl
    have hc8 : 2 * r.toInt.toNat + q.1.2.2.1 r.toInt.toNat - 1 < 8 := by omega
    have oP := HE.2.2.2.2.o
    have hsz : q.1.2.2.2.2.1 (2 * r.toInt.toNat + q.1.2.2.1 r.toInt.toNat - 1) ≤ 2 := by
      obtain ⟨f9, g9, -, -, -, -, -, -, -, -, -, z10⟩ := HE.2.2.2.2
      exact z10 _ hc8
    generalize 2 * r.toInt.toNat + q.1.2.2.1 r.toInt.toNat - 1 = c at *
    refine ex_aload_n dPW_element_87 rfl ?_
    refine ex_get dPW_element_88 fg_PW_19 o0 rfl ?_
    refine ex_get dPW_element_91 fg_PW_142 o2 rfl ?_
    refine ex_goto (tgt := 104) dPW_element_94 (by decide) ?_
    refine ex_astore (L' := [_, _, _, _, _, _, _]) dPW_element_104 (by decide) rfl ?_
    refine ex_aload dPW_element_106 rfl ?_
    refine ex_iload dPW_element_108 rfl ?_
    refine ex_v1 dPW_element_110 iv_PW_149 cd_Patt_elementsOf ar_Patt_elementsOf oP (c_Patt_elementsOf (d := d) (c := c) hc8 HE.2.2.2.2) (by dsimp only; omega) (Nat.le_of_ble_eq_true rfl) (Nat.zero_le _) (Nat.zero_le _) (fun E h9 q9 => by simp at q9) (fun v5 hp5 hq => ?_)
    obtain ⟨e, e1⟩ := hq
    cases e
    rw [e1]
    refine ex_iconst (v := nI 2) dPW_element_113 (by decide) ?_
    refine ex_icmp_lt (tgt := 127) dPW_element_114 (by decide) (fun hc7 => ?_) (fun hc7 => ?_)
    · rw [nI_ltI (by omega) (by omega)] at hc7
      rw [if_pos hc7] at u1
      refine ex_aload_n dPW_element_127 rfl ?_
      refine ex_get dPW_element_128 fg_PW_52 o0 rfl ?_
      refine ex_v0 dPW_element_131 iv_PW_102 cd_Resu_clear ar_Resu_clear r1 (c_Resu_clear (d := d) HR) (by dsimp only; omega) (Nat.le_of_ble_eq_true rfl) (Nat.zero_le _) (Nat.zero_le _) (fun E h9 q9 => by simp at q9) (fun v4 g1 hq => ?_)
      obtain ⟨e, R1, S1⟩ := hq
      cases e
      have oP1 := (S1.2 (x + 8) (by omega)).trans oP
      have em4 := c_Patt_addElement (l := l) (G := G) (d := d) (c := c) (s := s.toInt.toNat) (b := st) hc8 hs10 hc7 (Pt.sm HE.2.2.2.2 S1 (by omega))
      rw [← es.1] at em4
      refine ex_aload dPW_element_134 rfl ?_
      refine ex_iload dPW_element_136 rfl ?_
      refine ex_iload_n dPW_element_138 rfl ?_
      refine ex_iload dPW_element_139 rfl ?_
      refine ex_v3 dPW_element_141 iv_PW_156 cd_Patt_addElement ar_Patt_addElement oP1 (em4) (by dsimp only; omega) (Nat.le_of_ble_eq_true rfl) (Nat.zero_le _) (Nat.zero_le _) (fun E h9 q9 => by simp at q9) (fun v3 g2 hq => ?_)
      obtain ⟨e, P2, S2⟩ := hq
      cases e
      have EQ : ∀ z : Nat, ((z < x + 8 ∨ x + 11 ≤ z) ∧ (z < x + 79 ∨ x + 81 ≤ z)) → g2.2 z = h.2 z := fun z hz => (S2.2 z (by omega)).trans (S1.2 z (by omega))
      have R2 := HE.2.1.sm S1 (by omega)
      have D2 := HE.2.2.1.sm S1 (by omega)
      refine ex_iret dPW_element_144 rfl (Nat.zero_le _) (Nat.zero_le _) ⟨by rw [u1], ?_, fun z hz => EQ z (by omega)⟩
      rw [u1]
      exact ⟨(EQ _ (by omega)).trans o0, ⟨HE.1.fe (fun z a b => EQ z (by omega)), R2.sm S2 (by omega), D2.sm S2 (by omega), Pt.fe HE.2.2.2.1 (fun z a b => EQ z (by omega)), P2⟩, HX.fe (fun z a b => EQ z (by omega)), ⟨dy, HD.fd (fun z a => EQ z (by omega))⟩, HL.fe (fun z a b => EQ z (by omega)), HU.fe (fun z a b => EQ z (by omega)), HS.fe (fun z a b => EQ z (by omega)), R1.sm S2 (by omega), HY.eq (fun z a b => EQ z (by omega)), HB⟩
    · rw [nI_ltI (by omega) (by omega)] at hc7
      rw [if_neg hc7] at u1
      exact ex_throw dPW_element_117 dPW_element_120 dPW_element_121 dPW_element_123 dPW_element_126 ox_154 rfl (by decide) (Nat.le_of_ble_eq_true rfl) (Nat.le_of_ble_eq_true rfl) ⟨by rw [u1], by rw [u1]; exact H0.bump, Fr.rf⟩
  | false =>
    refine ex_if_eq (tgt := 97) dPW_element_84 (by decide) (fun hc6 => ?_) (fun hc6 => ?_)
    rotate_left
    · exact absurd rfl hc6
    have u1 : opEl q r false s st = (if q.1.2.2.2.1.1 (2 * r.toInt.toNat + q.1.2.2.1 r.toInt.toNat - 1) < 2 then (rI (nI (q.1.2.2.2.1.1 (2 * r.toInt.toNat + q.1.2.2.1 r.toInt.toNat - 1) + 1)), ((q.1.1, q.1.2.1, q.1.2.2.1, ptAdd true q.1.2.2.2.1 (2 * r.toInt.toNat + q.1.2.2.1 r.toInt.toNat - 1) s.toInt.toNat st, q.1.2.2.2.2), q.2.1, q.2.2.1, q.2.2.2.1, q.2.2.2.2.1, [])) else (.inr eS, q)) := by unfold opEl; rw [if_neg (fun z => z hr), if_neg (fun z => z ⟨by omega, by omega⟩), if_neg hz]; rfl
    have hc8 : 2 * r.toInt.toNat + q.1.2.2.1 r.toInt.toNat - 1 < 8 := by omega
    have oP := HE.2.2.2.1.o
    have hsz : q.1.2.2.2.1.1 (2 * r.toInt.toNat + q.1.2.2.1 r.toInt.toNat - 1) ≤ 2 := by
      obtain ⟨f9, g9, -, -, -, -, -, -, -, -, -, z10⟩ := HE.2.2.2.1
      exact z10 _ hc8
    generalize 2 * r.toInt.toNat + q.1.2.2.1 r.toInt.toNat - 1 = c at *
    refine ex_aload_n dPW_element_97 rfl ?_
    refine ex_get dPW_element_98 fg_PW_19 o0 rfl ?_
    refine ex_get dPW_element_101 fg_PW_146 o2 rfl ?_
    refine ex_astore (L' := [_, _, _, _, _, _, _]) dPW_element_104 (by decide) rfl ?_
    refine ex_aload dPW_element_106 rfl ?_
    refine ex_iload dPW_element_108 rfl ?_
    refine ex_v1 dPW_element_110 iv_PW_149 cd_Patt_elementsOf ar_Patt_elementsOf oP (c_Patt_elementsOf (d := d) (c := c) hc8 HE.2.2.2.1) (by dsimp only; omega) (Nat.le_of_ble_eq_true rfl) (Nat.zero_le _) (Nat.zero_le _) (fun E h9 q9 => by simp at q9) (fun v5 hp5 hq => ?_)
    obtain ⟨e, e1⟩ := hq
    cases e
    rw [e1]
    refine ex_iconst (v := nI 2) dPW_element_113 (by decide) ?_
    refine ex_icmp_lt (tgt := 127) dPW_element_114 (by decide) (fun hc7 => ?_) (fun hc7 => ?_)
    · rw [nI_ltI (by omega) (by omega)] at hc7
      rw [if_pos hc7] at u1
      refine ex_aload_n dPW_element_127 rfl ?_
      refine ex_get dPW_element_128 fg_PW_52 o0 rfl ?_
      refine ex_v0 dPW_element_131 iv_PW_102 cd_Resu_clear ar_Resu_clear r1 (c_Resu_clear (d := d) HR) (by dsimp only; omega) (Nat.le_of_ble_eq_true rfl) (Nat.zero_le _) (Nat.zero_le _) (fun E h9 q9 => by simp at q9) (fun v4 g1 hq => ?_)
      obtain ⟨e, R1, S1⟩ := hq
      cases e
      have oP1 := (S1.2 (x + 5) (by omega)).trans oP
      have em4 := c_Patt_addElement (l := l) (G := G) (d := d) (c := c) (s := s.toInt.toNat) (b := st) hc8 hs10 hc7 (Pt.sm HE.2.2.2.1 S1 (by omega))
      rw [← es.1] at em4
      refine ex_aload dPW_element_134 rfl ?_
      refine ex_iload dPW_element_136 rfl ?_
      refine ex_iload_n dPW_element_138 rfl ?_
      refine ex_iload dPW_element_139 rfl ?_
      refine ex_v3 dPW_element_141 iv_PW_156 cd_Patt_addElement ar_Patt_addElement oP1 (em4) (by dsimp only; omega) (Nat.le_of_ble_eq_true rfl) (Nat.zero_le _) (Nat.zero_le _) (fun E h9 q9 => by simp at q9) (fun v3 g2 hq => ?_)
      obtain ⟨e, P2, S2⟩ := hq
      cases e
      have EQ : ∀ z : Nat, ((z < x + 5 ∨ x + 8 ≤ z) ∧ (z < x + 79 ∨ x + 81 ≤ z)) → g2.2 z = h.2 z := fun z hz => (S2.2 z (by omega)).trans (S1.2 z (by omega))
      have R2 := HE.2.1.sm S1 (by omega)
      have D2 := HE.2.2.1.sm S1 (by omega)
      refine ex_iret dPW_element_144 rfl (Nat.zero_le _) (Nat.zero_le _) ⟨by rw [u1], ?_, fun z hz => EQ z (by omega)⟩
      rw [u1]
      exact ⟨(EQ _ (by omega)).trans o0, ⟨HE.1.fe (fun z a b => EQ z (by omega)), R2.sm S2 (by omega), D2.sm S2 (by omega), P2, Pt.fe HE.2.2.2.2 (fun z a b => EQ z (by omega))⟩, HX.fe (fun z a b => EQ z (by omega)), ⟨dy, HD.fd (fun z a => EQ z (by omega))⟩, HL.fe (fun z a b => EQ z (by omega)), HU.fe (fun z a b => EQ z (by omega)), HS.fe (fun z a b => EQ z (by omega)), R1.sm S2 (by omega), HY.eq (fun z a b => EQ z (by omega)), HB⟩
    · rw [nI_ltI (by omega) (by omega)] at hc7
      rw [if_neg hc7] at u1
      exact ex_throw dPW_element_117 dPW_element_120 dPW_element_121 dPW_element_123 dPW_element_126 ox_154 rfl (by decide) (Nat.le_of_ble_eq_true rfl) (Nat.le_of_ble_eq_true rfl) ⟨by rw [u1], by rw [u1]; exact H0.bump, Fr.rf⟩
theorem c_PW_entry {p n : Int32} (H : PS h x q) : xMet l G mPW_entry (d + 4) 1 6 [.ref x, .int p, .int n] h (fun o h' => o = (opEntry q p n).1 ∧ PS h' x (opEntry q p n).2 ∧ Fr h h' x) := by
  have H0 := H
  obtain ⟨o0, HE, HX, ⟨dy, HD⟩, HL, HU, HS, HR, HY, HB⟩ := H
  have o1 := HE.o1
  have o2 := HE.o2
  have hb := HE.b
  have Rc := HR
  obtain ⟨rf, r1, -⟩ := Rc
  obtain ⟨gx, fx, x1, -, -, -, -, -, -, x8⟩ := id HX
  have t19 : ¬ (pt4 p = true ∧ (pt4 n = true ∨ n = -1)) → Ex (l, G, d + 4, 1, 6, h, fun o h' => o = (opEntry q p n).1 ∧ PS h' x (opEntry q p n).2 ∧ Fr h h' x) mPW_entry 19 [some (.ref x), some (.int p), some (.int n)] [] h 0 0 := by
    intro hn
    have e : opEntry q p n = (.inr eA, q) := by unfold opEntry; rw [if_pos hn]
    exact ex_throw dPW_entry_19 dPW_entry_22 dPW_entry_23 dPW_entry_25 dPW_entry_28 ox_163 rfl (by decide) (Nat.le_of_ble_eq_true rfl) (Nat.le_of_ble_eq_true rfl) ⟨by rw [e], by rw [e]; exact H0.bump, Fr.rf⟩
  have t29 : pt4 p = true → (pt4 n = true ∨ n = -1) → Ex (l, G, d + 4, 1, 6, h, fun o h' => o = (opEntry q p n).1 ∧ PS h' x (opEntry q p n).2 ∧ Fr h h' x) mPW_entry 29 [some (.ref x), some (.int p), some (.int n)] [] h 0 0 := by
    intro hp hn
    have hp' : 0 ≤ p.toInt ∧ p.toInt < 4 := by simpa [pt4] using hp
    have ep := iv_of hp'.1
    have hnx : ∀ z, (if n = -1 then none else some n.toInt.toNat) = some z → z < 4 := by
      intro z hz
      rcases hn with hn | hn
      · have hn' : 0 ≤ n.toInt ∧ n.toInt < 4 := by simpa [pt4] using hn
        rw [if_neg (fun q => by rw [q] at hn'; exact absurd hn'.1 (by decide))] at hz
        have := Option.some.inj hz
        omega
      · rw [if_pos hn] at hz; cases hz
    have en : n = eN (if n = -1 then none else some n.toInt.toNat) := by
      by_cases q : n = -1
      · rw [if_pos q]; exact q
      · rw [if_neg q]
        rcases hn with hn | hn
        · have hn' : 0 ≤ n.toInt ∧ n.toInt < 4 := by simpa [pt4] using hn
          exact (iv_of hn'.1).1
        · exact absurd hn q
    have u1 : opEntry q p n = (if q.2.1.length < 8 then (rI (nI q.2.1.length), (q.1, q.2.1 ++ [(p.toInt.toNat, if n = -1 then none else some n.toInt.toNat, [])], q.2.2.1, q.2.2.2.1, q.2.2.2.2.1, [])) else (.inr eS, q)) := by unfold opEntry; rw [if_neg (fun z => z ⟨hp, hn⟩)]
    have hp4 : p.toInt.toNat < 4 := by omega
    generalize (if n = -1 then none else some n.toInt.toNat) = nx at *
    generalize p.toInt.toNat = i at *
    refine ex_aload_n dPW_entry_29 rfl ?_
    refine ex_get dPW_entry_30 fg_PW_26 o0 rfl ?_
    refine ex_v0 dPW_entry_33 iv_PW_165 cd_Lexi_count ar_Lexi_count x1 (c_Lexi_count (d := d) HX) (by dsimp only; omega) (Nat.le_of_ble_eq_true rfl) (Nat.zero_le _) (Nat.zero_le _) (fun E h9 q9 => by simp at q9) (fun v9 hp9 hq => ?_)
    obtain ⟨e, e1⟩ := hq
    cases e
    rw [e1]
    refine ex_bipush (v := nI 8) dPW_entry_36 (by decide) ?_
    refine ex_icmp_lt (tgt := 51) dPW_entry_38 (by decide) (fun hc => ?_) (fun hc => ?_)
    · rw [nI_ltI (by omega) (by omega)] at hc
      rw [if_pos hc] at u1
      refine ex_aload_n dPW_entry_51 rfl ?_
      refine ex_get dPW_entry_52 fg_PW_52 o0 rfl ?_
      refine ex_v0 dPW_entry_55 iv_PW_102 cd_Resu_clear ar_Resu_clear r1 (c_Resu_clear (d := d) HR) (by dsimp only; omega) (Nat.le_of_ble_eq_true rfl) (Nat.zero_le _) (Nat.zero_le _) (fun E h9 q9 => by simp at q9) (fun v7 g1 hq => ?_)
      obtain ⟨e, R1, S1⟩ := hq
      cases e
      have k0 := (S1.2 x (by omega)).trans o0
      have k1 := (S1.2 (x + 17) (by omega)).trans x1
      have em3 := c_Lexi_add (l := l) (G := G) (d := d) (p := i) (nx := nx) hc (HX.sm S1 (by omega))
      rw [← ep.1, ← en] at em3
      refine ex_aload_n dPW_entry_58 rfl ?_
      refine ex_get dPW_entry_59 fg_PW_26 k0 rfl ?_
      refine ex_iload_n dPW_entry_62 rfl ?_
      refine ex_iload_n dPW_entry_63 rfl ?_
      refine ex_v2 dPW_entry_64 iv_PW_168 cd_Lexi_add ar_Lexi_add k1 (em3) (by dsimp only; omega) (Nat.le_of_ble_eq_true rfl) (Nat.zero_le _) (Nat.zero_le _) (fun E h9 q9 => by simp at q9) (fun v6 g2 hq => ?_)
      obtain ⟨e, P2, S2⟩ := hq
      cases e
      have EQ : ∀ z : Nat, ((z < x + 17 ∨ x + 20 ≤ z) ∧ (z < x + 79 ∨ x + 81 ≤ z)) → g2.2 z = h.2 z := fun z hz => (S2.2 z (by omega)).trans (S1.2 z (by omega))
      refine ex_iret dPW_entry_67 rfl (Nat.zero_le _) (Nat.zero_le _) ⟨by rw [u1], ?_, fun z hz => EQ z (by omega)⟩
      rw [u1]
      refine ⟨(EQ _ (by omega)).trans o0, HE.fe (fun z a b => EQ z (by omega)), P2, ⟨dy, HD.fd (fun z a => EQ z (by omega))⟩, HL.fe (fun z a b => EQ z (by omega)), HU.fe (fun z a b => EQ z (by omega)), HS.fe (fun z a b => EQ z (by omega)), R1.sm S2 (by omega), HY.eq (fun z a b => EQ z (by omega)), fun z hz => ?_, HB.2⟩
      rcases List.mem_append.mp hz with z1 | z1
      · exact HB.1 z z1
      · rw [List.mem_singleton.mp z1]; exact ⟨hp4, hnx, fun i => by simp⟩
    · rw [nI_ltI (by omega) (by omega)] at hc
      rw [if_neg hc] at u1
      exact ex_throw dPW_entry_41 dPW_entry_44 dPW_entry_45 dPW_entry_47 dPW_entry_50 ox_166 rfl (by decide) (Nat.le_of_ble_eq_true rfl) (Nat.le_of_ble_eq_true rfl) ⟨by rw [u1], by rw [u1]; exact H0.bump, Fr.rf⟩
  refine xMet_of (L := [_, _, _]) (by decide) (Nat.le_of_ble_eq_true rfl) rfl ?_
  refine ex_iload_n dPW_entry_0 rfl ?_
  refine ex_s1 dPW_entry_1 is_PW_160 cd_PW_isPart ar_PW_isPart (c_PW_isPart (d := d) (a := p)) (by dsimp only; omega) (Nat.le_of_ble_eq_true rfl) (Nat.zero_le _) (Nat.zero_le _) (fun E h9 q9 => by simp at q9) (fun v9 hp9 hq => ?_)
  obtain ⟨e, e1⟩ := hq
  cases e
  rw [e1]
  refine ex_if_eq (tgt := 19) dPW_entry_4 (by decide) (fun hc => ?_) (fun hc => ?_)
  · exact t19 (fun z => by rw [bI_0.mp hc] at z; exact absurd z.1 (by decide))
  refine ex_iload_n dPW_entry_7 rfl ?_
  refine ex_s1 dPW_entry_8 is_PW_160 cd_PW_isPart ar_PW_isPart (c_PW_isPart (d := d) (a := n)) (by dsimp only; omega) (Nat.le_of_ble_eq_true rfl) (Nat.zero_le _) (Nat.zero_le _) (fun E h9 q9 => by simp at q9) (fun v8 hp8 hq => ?_)
  obtain ⟨e, e1⟩ := hq
  cases e
  rw [e1]
  refine ex_if_ne (tgt := 29) dPW_entry_11 (by decide) (fun hc2 => ?_) (fun hc2 => ?_)
  · exact t29 (bI_1 hc) (Or.inl (bI_1 hc2))
  refine ex_iload_n dPW_entry_14 rfl ?_
  refine ex_iconst (v := -1) dPW_entry_15 (by decide) ?_
  refine ex_icmp_eq (tgt := 29) dPW_entry_16 (by decide) (fun hc3 => ?_) (fun hc3 => ?_)
  · exact t29 (bI_1 hc) (Or.inr hc3)
  · exact t19 (fun z => z.2.elim (fun y => by rw [bI_0.mp hc2] at y; exact absurd y (by decide)) hc3)
theorem c_PW_spell {e z : Int32} (H : PS h x q) : xMet l G mPW_spell (d + 4) 1 6 [.ref x, .int e, .int z] h (fun o h' => o = (opSpell q e z).1 ∧ PS h' x (opSpell q e z).2 ∧ Fr h h' x) := by
  have H0 := H
  obtain ⟨o0, HE, HX, ⟨dy, HD⟩, HL, HU, HS, HR, HY, HB⟩ := H
  have o1 := HE.o1
  have o2 := HE.o2
  have hb := HE.b
  have Rc := HR
  obtain ⟨rf, r1, -⟩ := Rc
  obtain ⟨gx, fx, x1, x2, x3, x4, x5, x6, x7, x8⟩ := id HX
  have t22 : ¬ (0 ≤ e.toInt ∧ e.toInt < q.2.1.length ∧ sg1 z = true) → Ex (l, G, d + 4, 1, 6, h, fun o h' => o = (opSpell q e z).1 ∧ PS h' x (opSpell q e z).2 ∧ Fr h h' x) mPW_spell 22 [some (.ref x), some (.int e), some (.int z), none] [] h 0 0 := by
    intro hn
    have e : opSpell q e z = (.inr eA, q) := by unfold opSpell; rw [if_pos hn]
    exact ex_throw dPW_spell_22 dPW_spell_25 dPW_spell_26 dPW_spell_28 dPW_spell_31 ox_172 rfl (by decide) (Nat.le_of_ble_eq_true rfl) (Nat.le_of_ble_eq_true rfl) ⟨by rw [e], by rw [e]; exact H0.bump, Fr.rf⟩
  refine xMet_of (L := [_, _, _, _]) (by decide) (Nat.le_of_ble_eq_true rfl) rfl ?_
  refine ex_iload_n dPW_spell_0 rfl ?_
  refine ex_if_lt (tgt := 22) dPW_spell_1 (by decide) (fun hc => ?_) (fun hc => ?_)
  · rw [lt0] at hc; exact t22 (by omega)
  rw [lt0] at hc
  refine ex_iload_n dPW_spell_4 rfl ?_
  refine ex_aload_n dPW_spell_5 rfl ?_
  refine ex_get dPW_spell_6 fg_PW_26 o0 rfl ?_
  refine ex_v0 dPW_spell_9 iv_PW_165 cd_Lexi_count ar_Lexi_count x1 (c_Lexi_count (d := d) HX) (by dsimp only; omega) (Nat.le_of_ble_eq_true rfl) (Nat.zero_le _) (Nat.zero_le _) (fun E h9 q9 => by simp at q9) (fun v9 hp9 hq => ?_)
  obtain ⟨e0, e1⟩ := hq
  cases e0
  rw [e1]
  refine ex_icmp_ge (tgt := 22) dPW_spell_12 (by decide) (fun hc2 => ?_) (fun hc2 => ?_)
  · rw [Nle (by omega)] at hc2; exact t22 (by omega)
  rw [Nle (by omega)] at hc2
  refine ex_iload_n dPW_spell_15 rfl ?_
  refine ex_s1 dPW_spell_16 is_PW_169 cd_PW_isSign ar_PW_isSign (c_PW_isSign (d := d) (a := z)) (by dsimp only; omega) (Nat.le_of_ble_eq_true rfl) (Nat.zero_le _) (Nat.zero_le _) (fun E h9 q9 => by simp at q9) (fun v8 hp8 hq => ?_)
  obtain ⟨e0, e1⟩ := hq
  cases e0
  rw [e1]
  refine ex_if_ne (tgt := 32) dPW_spell_19 (by decide) (fun hc3 => ?_) (fun hc3 => ?_)
  rotate_left
  · exact t22 (fun y => by rw [bI_0.mp hc3] at y; exact absurd y.2.2 (by decide))
  have hz := bI_1 hc3
  have hz' : 0 < z.toInt ∧ z.toInt ≤ 7 := by simpa [sg1] using hz
  have ez := iv_of (a := z) (by omega)
  have ee := iv_of (a := e) (by omega)
  have hz8 : z.toInt.toNat < 8 := by omega
  have hel : e.toInt.toNat < q.2.1.length := by omega
  have u1 : opSpell q e z = (if (esg q.2.1 e.toInt.toNat).length < 3 then (rI (nI ((esg q.2.1 e.toInt.toNat).length + 1)), (q.1, esAdd q.2.1 e.toInt.toNat z.toInt.toNat, q.2.2.1, q.2.2.2.1, q.2.2.2.2.1, [])) else (.inr eS, q)) := by unfold opSpell; rw [if_neg (fun y => y ⟨by omega, by omega, hz⟩)]
  generalize z.toInt.toNat = k at *
  generalize e.toInt.toNat = i at *
  have em2 := c_Lexi_signsOf (l := l) (G := G) (d := d) (i := i) (by omega) HX
  rw [← ee.1] at em2
  have LN := x7 i (by omega)
  obtain ⟨fl, l1, l2, l3, -⟩ := id LN
  refine ex_aload_n dPW_spell_32 rfl ?_
  refine ex_get dPW_spell_33 fg_PW_26 o0 rfl ?_
  refine ex_iload_n dPW_spell_36 rfl ?_
  refine ex_v1 dPW_spell_37 iv_PW_174 cd_Lexi_signsOf ar_Lexi_signsOf x1 (em2) (by dsimp only; omega) (Nat.le_of_ble_eq_true rfl) (Nat.zero_le _) (Nat.zero_le _) (fun E h9 q9 => by simp at q9) (fun v7 hp7 hq => ?_)
  obtain ⟨e0, e1⟩ := hq
  cases e0
  rw [e1]
  refine ex_astore_n (L' := [_, _, _, _]) dPW_spell_40 (by decide) rfl ?_
  refine ex_aload_n dPW_spell_41 rfl ?_
  refine ex_v0 dPW_spell_42 iv_PW_178 cd_Line_isFull ar_Line_isFull l1 (c_Line_isFull (d := d) LN) (by dsimp only; omega) (Nat.le_of_ble_eq_true rfl) (Nat.zero_le _) (Nat.zero_le _) (fun E h9 q9 => by simp at q9) (fun v6 hp6 hq => ?_)
  obtain ⟨e0, e1⟩ := hq
  cases e0
  rw [e1]
  refine ex_if_eq (tgt := 58) dPW_spell_45 (by decide) (fun hc4 => ?_) (fun hc4 => ?_)
  · have hl : (esg q.2.1 i).length < 3 := by
      by_cases y : (esg q.2.1 i).length < 3
      · exact y
      · rw [if_neg (show ¬ (q.2.1.getD i en0).2.2.length < 3 from y)] at hc4; exact absurd hc4 (by decide)
    rw [if_pos hl] at u1
    refine ex_aload_n dPW_spell_58 rfl ?_
    refine ex_get dPW_spell_59 fg_PW_52 o0 rfl ?_
    refine ex_v0 dPW_spell_62 iv_PW_102 cd_Resu_clear ar_Resu_clear r1 (c_Resu_clear (d := d) HR) (by dsimp only; omega) (Nat.le_of_ble_eq_true rfl) (Nat.zero_le _) (Nat.zero_le _) (fun E h9 q9 => by simp at q9) (fun v5 g1 hq => ?_)
    obtain ⟨e0, R1, S1⟩ := hq
    cases e0
    have k1 := (S1.2 (x + 17 + 7 + 2 * i) (by omega)).trans l1
    have em3 := c_Line_add (l := l) (G := G) (d := d) (x := k) (LN.sm S1 (by omega))
    rw [← ez.1] at em3
    refine ex_aload_n dPW_spell_65 rfl ?_
    refine ex_iload_n dPW_spell_66 rfl ?_
    refine ex_v1 dPW_spell_67 iv_PW_184 cd_Line_add ar_Line_add k1 (em3) (by dsimp only; omega) (Nat.le_of_ble_eq_true rfl) (Nat.zero_le _) (Nat.zero_le _) (fun E h9 q9 => by simp at q9) (fun v4 g2 hq => ?_)
    obtain ⟨e0, L2, S2⟩ := hq
    cases e0
    have hlen : (((q.2.1.getD i en0).2.2 ++ [k]).take 3) = (q.2.1.getD i en0).2.2 ++ [k] := List.take_of_length_le (by rw [List.length_append]; exact hl)
    rw [hlen] at L2
    have EQ : ∀ y : Nat, ((y < x + 24 + 2 * i ∨ x + 26 + 2 * i ≤ y) ∧ (y < x + 79 ∨ x + 81 ≤ y)) → g2.2 y = h.2 y := fun y hy => (S2.2 y (by omega)).trans (S1.2 y (by omega))
    have hi8 : i < 8 := by omega
    refine ex_iret dPW_spell_70 rfl (Nat.zero_le _) (Nat.zero_le _) ⟨by rw [u1, hlen, List.length_append]; rfl, ?_, fun y hy => EQ y (by omega)⟩
    rw [u1]
    refine ⟨(EQ _ (by omega)).trans o0, HE.fe (fun y a b => EQ y (by omega)), ⟨gx, fx, ?_, ?_, (EQ _ (by omega)).trans x3, fun j hj => ?_, (EQ _ (by omega)).trans x5, x6, fun j hj => ?_, ?_⟩, ⟨dy, HD.fd (fun y a => EQ y (by omega))⟩, HL.fe (fun y a b => EQ y (by omega)), HU.fe (fun y a b => EQ y (by omega)), HS.fe (fun y a b => EQ y (by omega)), R1.sm S2 (by omega), HY.eq (fun y a b => EQ y (by omega)), fun y hy => ?_, HB.2⟩
    · show _ = some (cLexi (x + 17) (esAdd q.2.1 i k).length)
      rw [esAdd, List.length_set]; exact (EQ _ (by omega)).trans x1
    · show IA g2 _ 8 (esAdd q.2.1 i k).length _
      rw [esAdd, List.length_set]
      refine (x2.at (EQ _ (by omega))).to (Nat.le_refl _) (fun j hj => ?_)
      dsimp only
      rw [getD_set hel]
      by_cases y : j = i
      · rw [if_pos y, y]
      · rw [if_neg y]
    · rw [esAdd, List.length_set] at hj
      rw [x4 j hj]
      show _ = eN ((esAdd q.2.1 i k).getD j en0).2.1
      rw [esAdd, getD_set hel]
      by_cases y : j = i
      · rw [if_pos y, y]
      · rw [if_neg y]
    · show Ln g2 _ 3 ((esAdd q.2.1 i k).getD j en0).2.2
      rw [esAdd, getD_set hel]
      by_cases y : j = i
      · rw [if_pos y, y]; exact L2
      · rw [if_neg y]; exact (x7 j hj).fe (fun y a b => EQ y (by omega))
    · show (esAdd q.2.1 i k).length ≤ 8
      rw [esAdd, List.length_set]; exact x8
    · have hq0 := HB.1 _ (getD_mem (d := en0) hel)
      rcases List.mem_or_eq_of_mem_set hy with y1 | y1
      · exact HB.1 y y1
      · rw [y1]; exact ⟨hq0.1, hq0.2.1, snoc_lt hq0.2.2 hz8⟩
  · have hl : ¬ (esg q.2.1 i).length < 3 := fun y => by
      rw [if_pos (show (q.2.1.getD i en0).2.2.length < 3 from y)] at hc4; exact absurd rfl hc4
    rw [if_neg hl] at u1
    exact ex_throw dPW_spell_48 dPW_spell_51 dPW_spell_52 dPW_spell_54 dPW_spell_57 ox_182 rfl (by decide) (Nat.le_of_ble_eq_true rfl) (Nat.le_of_ble_eq_true rfl) ⟨by rw [u1], by rw [u1]; exact H0.bump, Fr.rf⟩
theorem c_PW_type {up : Bool} {z : Int32} (H : PS h x q) : xMet l G mPW_type (d + 4) 1 6 [.ref x, .int (bI up), .int z] h (fun o h' => o = (opType q up z).1 ∧ PS h' x (opType q up z).2 ∧ Fr h h' x) := by
  have H0 := H
  obtain ⟨o0, HE, HX, ⟨dy, HD⟩, HL, HU, HS, HR, HY, HB⟩ := H
  have o1 := HE.o1
  have o2 := HE.o2
  have hb := HE.b
  have Rc := HR
  obtain ⟨rf, r1, -⟩ := Rc
  refine xMet_of (L := [_, _, _, _]) (by decide) (Nat.le_of_ble_eq_true rfl) rfl ?_
  refine ex_iload_n dPW_type_0 rfl ?_
  refine ex_s1 dPW_type_1 is_PW_169 cd_PW_isSign ar_PW_isSign (c_PW_isSign (d := d) (a := z)) (by dsimp only; omega) (Nat.le_of_ble_eq_true rfl) (Nat.zero_le _) (Nat.zero_le _) (fun E h9 q9 => by simp at q9) (fun v9 hp9 hq => ?_)
  obtain ⟨e, e1⟩ := hq
  cases e
  rw [e1]
  refine ex_if_ne (tgt := 17) dPW_type_4 (by decide) (fun hc => ?_) (fun hc => ?_)
  rotate_left
  · have e : opType q up z = (.inr eA, q) := by unfold opType; rw [if_pos (fun y => by rw [bI_0.mp hc] at y; exact absurd y (by decide))]
    exact ex_throw dPW_type_7 dPW_type_10 dPW_type_11 dPW_type_13 dPW_type_16 ox_83 rfl (by decide) (Nat.le_of_ble_eq_true rfl) (Nat.le_of_ble_eq_true rfl) ⟨by rw [e], by rw [e]; exact H0.bump, Fr.rf⟩
  have hz := bI_1 hc
  have hz' : 0 < z.toInt ∧ z.toInt ≤ 7 := by simpa [sg1] using hz
  have ez := iv_of (a := z) (by omega)
  have hz8 : z.toInt.toNat < 8 := by omega
  refine ex_iload_n dPW_type_17 rfl ?_
  cases up with
  | true =>
    refine ex_if_eq (tgt := 28) dPW_type_18 (by decide) (fun hc6 => ?_) (fun hc6 => ?_)
    · exact absurd hc6 (by decide)
    have u1 : opType q true z = (if q.2.2.2.1.length < 5 then (rI (nI (q.2.2.2.1.length + 1)), (q.1, q.2.1, q.2.2.1, q.2.2.2.1 ++ [z.toInt.toNat], q.2.2.2.2)) else (.inr eS, q)) := by unfold opType; rw [if_neg (fun y => y hz)]; rfl
    obtain ⟨fl, l1, l2, l3, -⟩ := id HU
    generalize z.toInt.toNat = k at *
    refine ex_aload_n dPW_type_21 rfl ?_
    refine ex_get dPW_type_22 fg_PW_39 o0 rfl ?_
    refine ex_goto (tgt := 32) dPW_type_25 (by decide) ?_
    refine ex_astore_n (L' := [_, _, _, _]) dPW_type_32 (by decide) rfl ?_
    refine ex_aload_n dPW_type_33 rfl ?_
    refine ex_v0 dPW_type_34 iv_PW_178 cd_Line_isFull ar_Line_isFull l1 (c_Line_isFull (d := d) HU) (by dsimp only; omega) (Nat.le_of_ble_eq_true rfl) (Nat.zero_le _) (Nat.zero_le _) (fun E h9 q9 => by simp at q9) (fun v6 hp6 hq => ?_)
    obtain ⟨e, e1⟩ := hq
    cases e
    rw [e1]
    refine ex_if_eq (tgt := 50) dPW_type_37 (by decide) (fun hc4 => ?_) (fun hc4 => ?_)
    · have hl : q.2.2.2.1.length < 5 := by
        by_cases y : q.2.2.2.1.length < 5
        · exact y
        · rw [if_neg y] at hc4; exact absurd hc4 (by decide)
      rw [if_pos hl] at u1
      have em3 := c_Line_add (l := l) (G := G) (d := d) (x := k) HU
      rw [← ez.1] at em3
      refine ex_aload_n dPW_type_50 rfl ?_
      refine ex_iload_n dPW_type_51 rfl ?_
      refine ex_v1 dPW_type_52 iv_PW_184 cd_Line_add ar_Line_add l1 (em3) (by dsimp only; omega) (Nat.le_of_ble_eq_true rfl) (Nat.zero_le _) (Nat.zero_le _) (fun E h9 q9 => by simp at q9) (fun v4 g2 hq => ?_)
      obtain ⟨e, L2, S2⟩ := hq
      cases e
      have hlen : (q.2.2.2.1 ++ [k]).take 5 = q.2.2.2.1 ++ [k] := List.take_of_length_le (by rw [List.length_append]; exact hl)
      rw [hlen] at L2
      refine ex_iret dPW_type_55 rfl (Nat.zero_le _) (Nat.zero_le _) ⟨by rw [u1, hlen, List.length_append]; rfl, ?_, fun y hy => S2.2 y (by omega)⟩
      rw [u1]
      exact ⟨(S2.2 _ (by omega)).trans o0, HE.fe (fun y a b => S2.2 y (by omega)), HX.fe (fun y a b => S2.2 y (by omega)), ⟨dy, HD.fd (fun y a => S2.2 y (by omega))⟩, HL.fe (fun y a b => S2.2 y (by omega)), L2, HS.fe (fun y a b => S2.2 y (by omega)), HR.fe (fun y a b => S2.2 y (by omega)), HY.eq (fun y a b => S2.2 y (by omega)), HB.1, HB.2.1, snoc_lt HB.2.2.1 hz8, HB.2.2.2⟩
    · have hl : ¬ q.2.2.2.1.length < 5 := fun y => by rw [if_pos y] at hc4; exact absurd rfl hc4
      rw [if_neg hl] at u1
      exact ex_throw dPW_type_40 dPW_type_43 dPW_type_44 dPW_type_46 dPW_type_49 ox_186 rfl (by decide) (Nat.le_of_ble_eq_true rfl) (Nat.le_of_ble_eq_true rfl) ⟨by rw [u1], by rw [u1]; exact H0.bump, Fr.rf⟩
  | false =>
    refine ex_if_eq (tgt := 28) dPW_type_18 (by decide) (fun hc6 => ?_) (fun hc6 => ?_)
    rotate_left
    · exact absurd rfl hc6
    have u1 : opType q false z = (if q.2.2.1.length < 4 then (rI (nI (q.2.2.1.length + 1)), (q.1, q.2.1, q.2.2.1 ++ [z.toInt.toNat], q.2.2.2)) else (.inr eS, q)) := by unfold opType; rw [if_neg (fun y => y hz)]; rfl
    obtain ⟨fl, l1, l2, l3, -⟩ := id HL
    generalize z.toInt.toNat = k at *
    refine ex_aload_n dPW_type_28 rfl ?_
    refine ex_get dPW_type_29 fg_PW_35 o0 rfl ?_
    refine ex_astore_n (L' := [_, _, _, _]) dPW_type_32 (by decide) rfl ?_
    refine ex_aload_n dPW_type_33 rfl ?_
    refine ex_v0 dPW_type_34 iv_PW_178 cd_Line_isFull ar_Line_isFull l1 (c_Line_isFull (d := d) HL) (by dsimp only; omega) (Nat.le_of_ble_eq_true rfl) (Nat.zero_le _) (Nat.zero_le _) (fun E h9 q9 => by simp at q9) (fun v6 hp6 hq => ?_)
    obtain ⟨e, e1⟩ := hq
    cases e
    rw [e1]
    refine ex_if_eq (tgt := 50) dPW_type_37 (by decide) (fun hc4 => ?_) (fun hc4 => ?_)
    · have hl : q.2.2.1.length < 4 := by
        by_cases y : q.2.2.1.length < 4
        · exact y
        · rw [if_neg y] at hc4; exact absurd hc4 (by decide)
      rw [if_pos hl] at u1
      have em3 := c_Line_add (l := l) (G := G) (d := d) (x := k) HL
      rw [← ez.1] at em3
      refine ex_aload_n dPW_type_50 rfl ?_
      refine ex_iload_n dPW_type_51 rfl ?_
      refine ex_v1 dPW_type_52 iv_PW_184 cd_Line_add ar_Line_add l1 (em3) (by dsimp only; omega) (Nat.le_of_ble_eq_true rfl) (Nat.zero_le _) (Nat.zero_le _) (fun E h9 q9 => by simp at q9) (fun v4 g2 hq => ?_)
      obtain ⟨e, L2, S2⟩ := hq
      cases e
      have hlen : (q.2.2.1 ++ [k]).take 4 = q.2.2.1 ++ [k] := List.take_of_length_le (by rw [List.length_append]; exact hl)
      rw [hlen] at L2
      refine ex_iret dPW_type_55 rfl (Nat.zero_le _) (Nat.zero_le _) ⟨by rw [u1, hlen, List.length_append]; rfl, ?_, fun y hy => S2.2 y (by omega)⟩
      rw [u1]
      exact ⟨(S2.2 _ (by omega)).trans o0, HE.fe (fun y a b => S2.2 y (by omega)), HX.fe (fun y a b => S2.2 y (by omega)), ⟨dy, HD.fd (fun y a => S2.2 y (by omega))⟩, L2, HU.fe (fun y a b => S2.2 y (by omega)), HS.fe (fun y a b => S2.2 y (by omega)), HR.fe (fun y a b => S2.2 y (by omega)), HY.eq (fun y a b => S2.2 y (by omega)), HB.1, snoc_lt HB.2.1 hz8, HB.2.2.1, HB.2.2.2⟩
    · have hl : ¬ q.2.2.1.length < 4 := fun y => by rw [if_pos y] at hc4; exact absurd rfl hc4
      rw [if_neg hl] at u1
      exact ex_throw dPW_type_40 dPW_type_43 dPW_type_44 dPW_type_46 dPW_type_49 ox_186 rfl (by decide) (Nat.le_of_ble_eq_true rfl) (Nat.le_of_ble_eq_true rfl) ⟨by rw [u1], by rw [u1]; exact H0.bump, Fr.rf⟩
theorem c_PW_wipe {up : Bool} (H : PS h x q) : xMet l G mPW_wipe (d + 4) 1 6 [.ref x, .int (bI up)] h (fun o h' => o = (opWipe q up).1 ∧ PS h' x (opWipe q up).2 ∧ Fr h h' x) := by
  have H0 := H
  obtain ⟨o0, HE, HX, ⟨dy, HD⟩, HL, HU, HS, HR, HY, HB⟩ := H
  have o1 := HE.o1
  have o2 := HE.o2
  have hb := HE.b
  have Rc := HR
  obtain ⟨rf, r1, -⟩ := Rc
  refine xMet_of (L := [_, _, _, _]) (by decide) (Nat.le_of_ble_eq_true rfl) rfl ?_
  refine ex_iload_n dPW_wipe_0 rfl ?_
  cases up with
  | true =>
    refine ex_if_eq (tgt := 11) dPW_wipe_1 (by decide) (fun hc6 => ?_) (fun hc6 => ?_)
    · exact absurd hc6 (by decide)
    obtain ⟨fl, l1, l2, l3, -⟩ := id HU
    refine ex_aload_n dPW_wipe_4 rfl ?_
    refine ex_get dPW_wipe_5 fg_PW_39 o0 rfl ?_
    refine ex_goto (tgt := 15) dPW_wipe_8 (by decide) ?_
    refine ex_astore_n (L' := [_, _, _, _]) dPW_wipe_15 (by decide) rfl ?_
    refine ex_aload_n dPW_wipe_16 rfl ?_
    refine ex_v0 dPW_wipe_17 iv_PW_188 cd_Line_size ar_Line_size l1 (c_Line_size (d := d) HU) (by dsimp only; omega) (Nat.le_of_ble_eq_true rfl) (Nat.zero_le _) (Nat.zero_le _) (fun E h9 q9 => by simp at q9) (fun v6 hp6 hq => ?_)
    obtain ⟨e, e1⟩ := hq
    cases e
    rw [e1]
    refine ex_istore_n (L' := [_, _, _, _]) dPW_wipe_20 (by decide) rfl ?_
    refine ex_aload_n dPW_wipe_21 rfl ?_
    refine ex_iconst (v := nI 0) dPW_wipe_22 (by decide) ?_
    refine ex_v1 dPW_wipe_23 iv_PW_191 cd_Line_cutTo ar_Line_cutTo l1 (c_Line_cutTo (d := d) (k := 0) (by omega) HU) (by dsimp only; omega) (Nat.le_of_ble_eq_true rfl) (Nat.zero_le _) (Nat.zero_le _) (fun E h9 q9 => by simp at q9) (fun v5 g2 hq => ?_)
    obtain ⟨e, L2, S2⟩ := hq
    cases e
    refine ex_iload_n dPW_wipe_26 rfl ?_
    exact ex_iret dPW_wipe_27 rfl (Nat.zero_le _) (Nat.zero_le _) ⟨rfl, ⟨(S2.2 _ (by omega)).trans o0, HE.fe (fun y a b => S2.2 y (by omega)), HX.fe (fun y a b => S2.2 y (by omega)), ⟨dy, HD.fd (fun y a => S2.2 y (by omega))⟩, HL.fe (fun y a b => S2.2 y (by omega)), L2, HS.fe (fun y a b => S2.2 y (by omega)), HR.fe (fun y a b => S2.2 y (by omega)), HY.eq (fun y a b => S2.2 y (by omega)), HB.1, HB.2.1, fun i => by simp [opWipe], HB.2.2.2⟩, fun y hy => S2.2 y (by omega)⟩
  | false =>
    refine ex_if_eq (tgt := 11) dPW_wipe_1 (by decide) (fun hc6 => ?_) (fun hc6 => ?_)
    rotate_left
    · exact absurd rfl hc6
    obtain ⟨fl, l1, l2, l3, -⟩ := id HL
    refine ex_aload_n dPW_wipe_11 rfl ?_
    refine ex_get dPW_wipe_12 fg_PW_35 o0 rfl ?_
    refine ex_astore_n (L' := [_, _, _, _]) dPW_wipe_15 (by decide) rfl ?_
    refine ex_aload_n dPW_wipe_16 rfl ?_
    refine ex_v0 dPW_wipe_17 iv_PW_188 cd_Line_size ar_Line_size l1 (c_Line_size (d := d) HL) (by dsimp only; omega) (Nat.le_of_ble_eq_true rfl) (Nat.zero_le _) (Nat.zero_le _) (fun E h9 q9 => by simp at q9) (fun v6 hp6 hq => ?_)
    obtain ⟨e, e1⟩ := hq
    cases e
    rw [e1]
    refine ex_istore_n (L' := [_, _, _, _]) dPW_wipe_20 (by decide) rfl ?_
    refine ex_aload_n dPW_wipe_21 rfl ?_
    refine ex_iconst (v := nI 0) dPW_wipe_22 (by decide) ?_
    refine ex_v1 dPW_wipe_23 iv_PW_191 cd_Line_cutTo ar_Line_cutTo l1 (c_Line_cutTo (d := d) (k := 0) (by omega) HL) (by dsimp only; omega) (Nat.le_of_ble_eq_true rfl) (Nat.zero_le _) (Nat.zero_le _) (fun E h9 q9 => by simp at q9) (fun v5 g2 hq => ?_)
    obtain ⟨e, L2, S2⟩ := hq
    cases e
    refine ex_iload_n dPW_wipe_26 rfl ?_
    exact ex_iret dPW_wipe_27 rfl (Nat.zero_le _) (Nat.zero_le _) ⟨rfl, ⟨(S2.2 _ (by omega)).trans o0, HE.fe (fun y a b => S2.2 y (by omega)), HX.fe (fun y a b => S2.2 y (by omega)), ⟨dy, HD.fd (fun y a => S2.2 y (by omega))⟩, L2, HU.fe (fun y a b => S2.2 y (by omega)), HS.fe (fun y a b => S2.2 y (by omega)), HR.fe (fun y a b => S2.2 y (by omega)), HY.eq (fun y a b => S2.2 y (by omega)), HB.1, fun i => by simp [opWipe], HB.2.2.1, HB.2.2.2⟩, fun y hy => S2.2 y (by omega)⟩
theorem c_PW_belong (H : PS h x q) : xMet l G mPW_belong (d + 25) 1 6 [.ref x] h (fun o h' => o = (opBelong q).1 ∧ PS h' x (opBelong q).2 ∧ Fr h h' x) := by
  have H0 := H
  obtain ⟨o0, HE, HX, ⟨dy, HD⟩, HL, HU, HS, HR, HY, HB⟩ := H
  have o1 := HE.o1
  have o2 := HE.o2
  have hb := HE.b
  have Rc := HR
  obtain ⟨rf, r1, -⟩ := Rc
  have HD0 := HD
  obtain ⟨-, -, -, cs, HC⟩ := HD0
  obtain ⟨w9, o6, -⟩ := id HC.1
  refine xMet_of (L := [_]) (by decide) (Nat.le_of_ble_eq_true rfl) rfl ?_
  refine ex_aload_n dPW_belong_0 rfl ?_
  refine ex_get dPW_belong_1 fg_PW_64 o0 rfl ?_
  refine ex_aload_n dPW_belong_4 rfl ?_
  refine ex_get dPW_belong_5 fg_PW_35 o0 rfl ?_
  refine ex_aload_n dPW_belong_8 rfl ?_
  refine ex_get dPW_belong_9 fg_PW_39 o0 rfl ?_
  refine ex_v2 dPW_belong_12 iv_PW_194 cd_Comp_finds ar_Comp_finds o6 (c_Comp_finds (d := d) (a := x + 83) (by omega) (by omega) (by omega) HB.2.1 HB.2.2.1 HE HC HL HU) (by dsimp only; omega) (Nat.le_of_ble_eq_true rfl) (Nat.zero_le _) (Nat.zero_le _) (fun E h9 q9 => by simp at q9) (fun v9 g1 hq => ?_)
  obtain ⟨e, C1, S1⟩ := hq
  cases e
  exact ex_zret dPW_belong_15 rfl (bI_01 _) (Nat.zero_le _) (Nat.zero_le _) ⟨rfl, H0.cmp C1 S1, fun y hy => S1.2 y (by omega)⟩
theorem c_PW_blame (H : PS h x q) : xMet l G mPW_blame (d + 25) 1 6 [.ref x] h (fun o h' => o = (opBlame q).1 ∧ PS h' x (opBlame q).2 ∧ Fr h h' x) := by
  have H0 := H
  obtain ⟨o0, HE, HX, ⟨dy, HD⟩, HL, HU, HS, HR, HY, HB⟩ := H
  have o1 := HE.o1
  have o2 := HE.o2
  have hb := HE.b
  have Rc := HR
  obtain ⟨rf, r1, -⟩ := Rc
  have HD0 := HD
  obtain ⟨-, -, -, cs, HC⟩ := HD0
  obtain ⟨w9, o6, -⟩ := id HC.1
  refine xMet_of (L := [_]) (by decide) (Nat.le_of_ble_eq_true rfl) rfl ?_
  refine ex_aload_n dPW_blame_0 rfl ?_
  refine ex_get dPW_blame_1 fg_PW_64 o0 rfl ?_
  refine ex_aload_n dPW_blame_4 rfl ?_
  refine ex_get dPW_blame_5 fg_PW_35 o0 rfl ?_
  refine ex_aload_n dPW_blame_8 rfl ?_
  refine ex_get dPW_blame_9 fg_PW_39 o0 rfl ?_
  refine ex_v2 dPW_blame_12 iv_PW_194 cd_Comp_finds ar_Comp_finds o6 (c_Comp_finds (d := d) (a := x + 83) (by omega) (by omega) (by omega) HB.2.1 HB.2.2.1 HE HC HL HU) (by dsimp only; omega) (Nat.le_of_ble_eq_true rfl) (Nat.zero_le _) (Nat.zero_le _) (fun E h9 q9 => by simp at q9) (fun v9 g1 hq => ?_)
  obtain ⟨e, C1, S1⟩ := hq
  cases e
  obtain ⟨w8, o7, -⟩ := id C1.1
  refine ex_pop dPW_blame_15 rfl ?_
  refine ex_aload_n dPW_blame_16 rfl ?_
  refine ex_get dPW_blame_17 fg_PW_64 ((S1.2 x (by omega)).trans o0) rfl ?_
  refine ex_v0 dPW_blame_20 iv_PW_198 cd_Comp_culprit ar_Comp_culprit o7 (c_Comp_culprit (d := d) C1) (by dsimp only; omega) (Nat.le_of_ble_eq_true rfl) (Nat.zero_le _) (Nat.zero_le _) (fun E h9 q9 => by simp at q9) (fun v8 hp8 hq => ?_)
  obtain ⟨e, e1⟩ := hq
  cases e
  rw [e1]
  exact ex_iret dPW_blame_23 rfl (Nat.zero_le _) (Nat.zero_le _) ⟨rfl, H0.cmp C1 S1, fun y hy => S1.2 y (by omega)⟩
theorem c_PW_sample (H : PS h x q) : xMet l G mPW_sample (d + 5) 1 6 [.ref x] h (fun o h' => o = (opSample q).1 ∧ PS h' x (opSample q).2 ∧ Fr h h' x) := by
  have H0 := H
  obtain ⟨o0, HE, HX, ⟨dy, HD⟩, HL, HU, HS, HR, HY, HB⟩ := H
  have o1 := HE.o1
  have o2 := HE.o2
  have hb := HE.b
  have Rc := HR
  obtain ⟨rf, r1, -⟩ := Rc
  obtain ⟨fa, ga, s1, -, -, -, -, -, -, s8⟩ := id HS
  refine xMet_of (L := [_]) (by decide) (Nat.le_of_ble_eq_true rfl) rfl ?_
  refine ex_aload_n dPW_sample_0 rfl ?_
  refine ex_get dPW_sample_1 fg_PW_45 o0 rfl ?_
  refine ex_v0 dPW_sample_4 iv_PW_237 cd_Samp_count ar_Samp_count s1 (c_Samp_count (d := d) HS) (by dsimp only; omega) (Nat.le_of_ble_eq_true rfl) (Nat.zero_le _) (Nat.zero_le _) (fun E h9 q9 => by simp at q9) (fun v9 hp9 hq => ?_)
  obtain ⟨e, e1⟩ := hq
  cases e
  rw [e1]
  refine ex_bipush (v := nI 8) dPW_sample_7 (by decide) ?_
  refine ex_icmp_lt (tgt := 22) dPW_sample_9 (by decide) (fun hc => ?_) (fun hc => ?_)
  · rw [nI_ltI (by omega) (by omega)] at hc
    have u1 : opSample q = (rI (nI q.2.2.2.2.1.length), (q.1, q.2.1, q.2.2.1, q.2.2.2.1, q.2.2.2.2.1 ++ [(q.2.2.1, q.2.2.2.1)], q.2.2.2.2.2)) := by unfold opSample; rw [if_pos hc]
    obtain ⟨fl, -, -, l3, -⟩ := id HL
    obtain ⟨fu, -, -, u3, -⟩ := id HU
    refine ex_aload_n dPW_sample_22 rfl ?_
    refine ex_get dPW_sample_23 fg_PW_45 o0 rfl ?_
    refine ex_aload_n dPW_sample_26 rfl ?_
    refine ex_get dPW_sample_27 fg_PW_35 o0 rfl ?_
    refine ex_aload_n dPW_sample_30 rfl ?_
    refine ex_get dPW_sample_31 fg_PW_39 o0 rfl ?_
    refine ex_v2 dPW_sample_34 iv_PW_240 cd_Samp_add ar_Samp_add s1 (c_Samp_add (d := d) (b := x + 40) (c := x + 42) hc (by omega) (by omega) HS HL HU) (by dsimp only; omega) (Nat.le_of_ble_eq_true rfl) (Nat.zero_le _) (Nat.zero_le _) (fun E h9 q9 => by simp at q9) (fun v8 g1 hq => ?_)
    obtain ⟨e, S2, F2⟩ := hq
    cases e
    rw [List.take_of_length_le l3, List.take_of_length_le u3] at S2
    refine ex_iret dPW_sample_37 rfl (Nat.zero_le _) (Nat.zero_le _) ⟨by rw [u1], ?_, fun y hy => F2.2 y (by omega)⟩
    rw [u1]
    refine ⟨(F2.2 _ (by omega)).trans o0, HE.fe (fun y a b => F2.2 y (by omega)), HX.fe (fun y a b => F2.2 y (by omega)), ⟨dy, HD.fd (fun y a => F2.2 y (by omega))⟩, HL.fe (fun y a b => F2.2 y (by omega)), HU.fe (fun y a b => F2.2 y (by omega)), S2, HR.fe (fun y a b => F2.2 y (by omega)), HY.eq (fun y a b => F2.2 y (by omega)), HB.1, HB.2.1, HB.2.2.1, fun j => ?_, HB.2.2.2.2⟩
    by_cases e : j = q.2.2.2.2.1.length
    · subst e; dsimp only; rw [getD_snoc]; exact ⟨HB.2.1, HB.2.2.1⟩
    · dsimp only; rw [getD_snoc' e]; exact HB.2.2.2.1 j
  · rw [nI_ltI (by omega) (by omega)] at hc
    have u1 : opSample q = (.inr eS, q) := by unfold opSample; rw [if_neg hc]
    exact ex_throw dPW_sample_12 dPW_sample_15 dPW_sample_16 dPW_sample_18 dPW_sample_21 ox_238 rfl (by decide) (Nat.le_of_ble_eq_true rfl) (Nat.le_of_ble_eq_true rfl) ⟨by rw [u1], by rw [u1]; exact H0.bump, Fr.rf⟩
theorem c_PW_check (H : PS h x q) : xMet l G mPW_check (d + 25) 1 6 [.ref x] h (fun o h' => o = (opCheck q).1 ∧ PS h' x (opCheck q).2 ∧ Fr h h' x) := by
  have loop : ∀ (j i : Nat) (hi : xH), i + j = q.2.2.2.2.1.length → PS hi x q → Fr h hi x → chk q.1 q.2.2.2.2.1 j i = chk q.1 q.2.2.2.2.1 q.2.2.2.2.1.length 0 → Ex (l, G, d + 25, 1, 6, h, fun o h' => o = (opCheck q).1 ∧ PS h' x (opCheck q).2 ∧ Fr h h' x) mPW_check 2 [some (.ref x), some (.int (nI i))] [] hi 0 0 := by
    intro j
    induction j with
    | zero =>
      intro i hi hij X F hk
      have X0 := X
      obtain ⟨o0, HE, HX, ⟨dy, HD⟩, HL, HU, HS, HR, HY, HB⟩ := X
      obtain ⟨fa, ga, s1, -, -, -, -, -, -, s8⟩ := id HS
      refine ex_iload_n dPW_check_2 rfl ?_
      refine ex_aload_n dPW_check_3 rfl ?_
      refine ex_get dPW_check_4 fg_PW_45 o0 rfl ?_
      refine ex_v0 dPW_check_7 iv_PW_237 cd_Samp_count ar_Samp_count s1 (c_Samp_count (d := d) HS) (by dsimp only; omega) (Nat.le_of_ble_eq_true rfl) (Nat.zero_le _) (Nat.zero_le _) (fun E h9 q9 => by simp at q9) (fun v9 hp9 hq => ?_)
      obtain ⟨e, e1⟩ := hq
      cases e
      rw [e1]
      refine ex_icmp_ge (tgt := 47) dPW_check_10 (by decide) (fun hc => ?_) (fun hc => ?_)
      · refine ex_iconst (v := -1) dPW_check_47 (by decide) ?_
        exact ex_iret dPW_check_48 rfl (Nat.zero_le _) (Nat.zero_le _) ⟨by unfold opCheck; rw [← hk]; rfl, X0, F⟩
      · exact absurd (nI_le (by omega) (by omega)) hc
    | succ j ih =>
      intro i hi hij X F hk
      have X0 := X
      obtain ⟨o0, HE, HX, ⟨dy, HD⟩, HL, HU, HS, HR, HY, HB⟩ := X
      obtain ⟨fa, ga, s1, -, -, -, -, s6, s7, s8⟩ := id HS
      obtain ⟨-, -, -, cs, HC⟩ := HD
      obtain ⟨w9, o6, -⟩ := id HC.1
      refine ex_iload_n dPW_check_2 rfl ?_
      refine ex_aload_n dPW_check_3 rfl ?_
      refine ex_get dPW_check_4 fg_PW_45 o0 rfl ?_
      refine ex_v0 dPW_check_7 iv_PW_237 cd_Samp_count ar_Samp_count s1 (c_Samp_count (d := d) HS) (by dsimp only; omega) (Nat.le_of_ble_eq_true rfl) (Nat.zero_le _) (Nat.zero_le _) (fun E h9 q9 => by simp at q9) (fun v9 hp9 hq => ?_)
      obtain ⟨e, e1⟩ := hq
      cases e
      rw [e1]
      refine ex_icmp_ge (tgt := 47) dPW_check_10 (by decide) (fun hc => ?_) (fun hc => ?_)
      · exact absurd hc (nI_ge (by omega) (by omega))
      refine ex_aload_n dPW_check_13 rfl ?_
      refine ex_get dPW_check_14 fg_PW_64 o0 rfl ?_
      refine ex_aload_n dPW_check_17 rfl ?_
      refine ex_get dPW_check_18 fg_PW_45 o0 rfl ?_
      refine ex_iload_n dPW_check_21 rfl ?_
      refine ex_v1 dPW_check_22 iv_PW_243 cd_Samp_lowerOf ar_Samp_lowerOf s1 (c_Samp_lowerOf (d := d) (i := i) (by omega) HS) (by dsimp only; omega) (Nat.le_of_ble_eq_true rfl) (Nat.zero_le _) (Nat.zero_le _) (fun E h9 q9 => by simp at q9) (fun v8 hp8 hq => ?_)
      obtain ⟨e, e1⟩ := hq
      cases e
      rw [e1]
      refine ex_aload_n dPW_check_25 rfl ?_
      refine ex_get dPW_check_26 fg_PW_45 o0 rfl ?_
      refine ex_iload_n dPW_check_29 rfl ?_
      refine ex_v1 dPW_check_30 iv_PW_246 cd_Samp_upperOf ar_Samp_upperOf s1 (c_Samp_upperOf (d := d) (i := i) (by omega) HS) (by dsimp only; omega) (Nat.le_of_ble_eq_true rfl) (Nat.zero_le _) (Nat.zero_le _) (fun E h9 q9 => by simp at q9) (fun v7 hp7 hq => ?_)
      obtain ⟨e, e1⟩ := hq
      cases e
      rw [e1]
      refine ex_v2 dPW_check_33 iv_PW_194 cd_Comp_finds ar_Comp_finds o6 (c_Comp_finds (d := d) (a := x + 83) (by omega) (by omega) (by omega) (HB.2.2.2.1 i).1 (HB.2.2.2.1 i).2 HE HC (s6 i (by omega)) (s7 i (by omega))) (by dsimp only; omega) (Nat.le_of_ble_eq_true rfl) (Nat.zero_le _) (Nat.zero_le _) (fun E h9 q9 => by simp at q9) (fun v6 g1 hq => ?_)
      obtain ⟨e, C1, S1⟩ := hq
      cases e
      have X1 := X0.cmp C1 S1
      have F1 := F.trans (fun y hy => S1.2 y (by omega))
      refine ex_if_ne (tgt := 41) dPW_check_36 (by decide) (fun hc2 => ?_) (fun hc2 => ?_)
      · refine ex_iinc (L' := [_, _]) dPW_check_41 rfl rfl (by decide) rfl ?_
        refine ex_goto (tgt := 2) dPW_check_44 (by decide) ?_
        rw [show nI i + Int32.ofInt 1 = nI (i + 1) from nI_1 i]
        exact ih (i + 1) g1 (by omega) X1 F1 (by rw [← hk, chk, if_pos (bI_1 hc2)])
      · refine ex_iload_n dPW_check_39 rfl ?_
        exact ex_iret dPW_check_40 rfl (Nat.zero_le _) (Nat.zero_le _) ⟨by unfold opCheck; rw [← hk, chk, bI_0.mp hc2]; rfl, X1, F1⟩
  refine xMet_of (L := [_, _]) (by decide) (Nat.le_of_ble_eq_true rfl) rfl ?_
  refine ex_iconst (v := nI 0) dPW_check_0 (by decide) ?_
  refine ex_istore_n (L' := [_, _]) dPW_check_1 (by decide) rfl ?_
  exact loop _ 0 h (by omega) H Fr.rf rfl
end PWB
