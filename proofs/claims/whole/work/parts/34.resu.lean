/-! Numbers in longs. -/
theorem wb_tb (n : Nat) : (lN n).toBitVec = BitVec.ofNat 64 n := rfl
theorem wb_inj {a b : Int64} (h : a.toBitVec = b.toBitVec) : a = b := Int64.toBitVec_inj.mp h
theorem wb_c : ∀ k, k < 64 → ((nI k).toInt64 &&& 63) = lN k := by decide +kernel
theorem wb_sm : ∀ k, k < 64 → (BitVec.ofNat 64 k).smod 64 = BitVec.ofNat 64 k := by decide +kernel
theorem wb_shl (n : Nat) {k : Nat} (hk : k < 64) : lN n <<< ((nI k).toInt64 &&& 63) = lN (n * 2 ^ k) := by
  rw [wb_c k hk]
  apply wb_inj
  rw [Int64.toBitVec_shiftLeft, wb_tb, wb_tb, wb_tb, wb_sm k hk]
  apply BitVec.eq_of_toNat_eq
  rw [BitVec.shiftLeft_eq', BitVec.toNat_shiftLeft, BitVec.toNat_ofNat, BitVec.toNat_ofNat, BitVec.toNat_ofNat, Nat.mod_eq_of_lt (show k < 2 ^ 64 by omega), Nat.shiftLeft_eq, Nat.mul_mod, Nat.mod_mod, ← Nat.mul_mod]
theorem wb_and {a b : Nat} (ha : a < 2 ^ 64) (hb : b < 2 ^ 64) : lN a &&& lN b = lN (a &&& b) := by
  apply wb_inj
  rw [Int64.toBitVec_and, wb_tb, wb_tb, wb_tb]
  apply BitVec.eq_of_toNat_eq
  rw [BitVec.toNat_and, BitVec.toNat_ofNat, BitVec.toNat_ofNat, BitVec.toNat_ofNat, Nat.mod_eq_of_lt ha, Nat.mod_eq_of_lt hb, Nat.mod_eq_of_lt (Nat.and_lt_two_pow _ hb)]
theorem u_tn {n : Nat} (h : n < 2 ^ 64) : (UInt64.ofNat n).toNat = n := Nat.mod_eq_of_lt h
theorem g_or {k p a b : Nat} (hp : 2 ^ k = p) (ha : a < p) (h : b * p + a < 2 ^ 64) : lN (b * p) ||| lN a = lN (b * p + a) := by
  subst hp
  have h1 : b * 2 ^ k ||| a = b * 2 ^ k + a := by rw [← Nat.shiftLeft_eq, Nat.shiftLeft_add_eq_or_of_lt ha]
  have h3 : UInt64.ofNat (b * 2 ^ k) ||| UInt64.ofNat a = UInt64.ofNat (b * 2 ^ k + a) := UInt64.toNat_inj.mp (by rw [UInt64.toNat_or, u_tn (by omega), u_tn (by omega), u_tn h, h1])
  have h2 := congrArg UInt64.toInt64 h3
  exact h2
theorem pf_lI {a : Nat} (h : a < 2 ^ 63) : (lN a).toInt = (a : Int) := lg_ofNat_toInt h
theorem pf_shr {a d : Nat} {D : Int64} (hD : (D.toBitVec.smod 64).toNat = d) (h : a < 2 ^ 62) : lN a >>> D = lN (a / 2 ^ d) := by
  have hd : a / 2 ^ d ≤ a := Nat.div_le_self _ _
  apply Int64.toInt_inj.mp
  have e : (lN a >>> D).toInt = (lN a).toInt >>> d := by
    rw [← hD]
    exact BitVec.toInt_sshiftRight ..
  rw [e, Int.shiftRight_eq_div_pow, pf_lI (by omega), pf_lI (by omega)]
  rfl
/-! Results. Rs h a ks tm: at a the object, at a + 1 its keys, in order. -/
abbrev cResu (a c : Nat) (tm : Bool) : xE := .inr (3, [.ref (a + 1), .int (nI c), .int (bI tm)])
abbrev cL (N : Nat) (f : Nat → Int64) : xE := .inl (1, N, .inr (.inl f))
def Rs (h : xH) (a : Nat) (ks : List Nat) (tm : Bool) : Prop := ∃ f : Nat → Int64, h.2 a = some (cResu a ks.length tm) ∧ h.2 (a + 1) = some (cL 60 f) ∧ ks.length ≤ 60 ∧ (∀ j, j < ks.length → f j = lN (ks.getD j 0)) ∧ (∀ k ∈ ks, k < 2 ^ 62) ∧ ks.Pairwise (· < ·)
theorem Rs.sm {h h' : xH} {a lo hi : Nat} {ks : List Nat} {tm : Bool} (H : Rs h a ks tm) (hs : Sm h h' lo hi) (hd : a + 2 ≤ lo ∨ hi ≤ a) : Rs h' a ks tm := by
  obtain ⟨f, h1, h2, h3⟩ := H
  exact ⟨f, by rw [hs.2 a (by omega)]; exact h1, by rw [hs.2 (a + 1) (by omega)]; exact h2, h3⟩
/-- a number put in its place -/
def ins (k : Nat) : List Nat → List Nat
  | [] => [k]
  | x :: xs => if x < k then x :: ins k xs else k :: x :: xs
theorem ins_split {k : Nat} : ∀ (ks : List Nat) (i : Nat), i ≤ ks.length → (∀ j, j < i → ks.getD j 0 < k) → (∀ j, i ≤ j → j < ks.length → k < ks.getD j 0) → ins k ks = ks.take i ++ k :: ks.drop i
  | [], i, hi, _, _ => by simp [ins]
  | x :: xs, 0, hi, _, h2 => by
    have := h2 0 (Nat.le_refl _) (by simp)
    simp at this
    simp [ins]; omega
  | x :: xs, i + 1, hi, h1, h2 => by
    have a1 := h1 0 (by omega)
    simp at a1
    have ih := ins_split xs i (by simpa using hi) (fun j hj => by have := h1 (j + 1) (by omega); simpa using this) (fun j hj hl => by have := h2 (j + 1) (by omega) (by simpa using hl); simpa using this)
    simp [ins, a1, ih]
theorem ins_mem {k x : Nat} : ∀ {ks : List Nat}, x ∈ ins k ks ↔ x = k ∨ x ∈ ks
  | [] => by simp [ins]
  | y :: ys => by
    unfold ins
    split
    · rw [List.mem_cons, ins_mem (ks := ys), List.mem_cons]
      constructor
      · rintro (h | h | h) <;> simp [h]
      · rintro (h | h | h) <;> simp [h]
    · simp
theorem ins_len {k : Nat} : ∀ (ks : List Nat), (ins k ks).length = ks.length + 1
  | [] => rfl
  | y :: ys => by
    unfold ins
    split
    · simp [ins_len ys]
    · simp
theorem ins_sorted {k : Nat} : ∀ {ks : List Nat}, ks.Pairwise (· < ·) → k ∉ ks → (ins k ks).Pairwise (· < ·)
  | [], _, _ => by simp [ins]
  | y :: ys, h, hn => by
    rw [List.pairwise_cons] at h
    rw [List.mem_cons] at hn
    unfold ins
    split
    · rename_i hlt
      rw [List.pairwise_cons]
      refine ⟨fun z hz => ?_, ins_sorted h.2 (fun q => hn (Or.inr q))⟩
      rcases ins_mem.mp hz with rfl | q
      · exact hlt
      · exact h.1 z q
    · rename_i hge
      rw [List.pairwise_cons, List.pairwise_cons]
      refine ⟨fun z hz => ?_, h⟩
      have hyk : k < y := by omega
      rcases List.mem_cons.mp hz with rfl | q
      · exact hyk
      · exact Nat.lt_trans hyk (h.1 z q)
def radd (r : List Nat × Bool) (k : Nat) : List Nat × Bool := if k ∈ r.1 then r else if 60 ≤ r.1.length then (r.1, true) else (ins k r.1, r.2)
theorem sorted_get {ks : List Nat} (h : ks.Pairwise (· < ·)) {i j : Nat} (hij : i < j) (hj : j < ks.length) : ks.getD i 0 < ks.getD j 0 := by
  rw [List.pairwise_iff_getElem] at h
  have := h i j (by omega) hj hij
  rw [List.getD_eq_getElem?_getD, List.getD_eq_getElem?_getD, List.getElem?_eq_getElem (by omega), List.getElem?_eq_getElem hj]
  exact this
/-! the number of a result -/
def kcat (k : Nat) (f : Nat → Nat) : Nat → Nat
  | 0 => k
  | n + 1 => kcat k f n * 8 + f n
theorem kcat_lt {k : Nat} {f : Nat → Nat} : ∀ {n : Nat}, (∀ i, i < n → f i < 8) → kcat k f n < (k + 1) * 8 ^ n
  | 0, _ => by simp [kcat]
  | n + 1, h => by
    have h1 := kcat_lt (k := k) (f := f) (n := n) (fun i hi => h i (by omega))
    have h2 := h n (by omega)
    rw [kcat, Nat.pow_succ, ← Nat.mul_assoc]
    omega
def rkey (w : List Nat) (es : Nat → Nat) (n : Nat) : Nat := kcat (kcat w.length (fun i => w.getD i 0) 5 * 8 + n) (fun i => if i < n then es i else 0) 4
section RESU
variable {l : Launch} {G : xG} {d : Nat} {h : xH} {a : Nat} {ks : List Nat} {tm : Bool}
theorem c_Resu_count (H : Rs h a ks tm) : xMet l G mResu_count d 0 0 [.ref a] h (fun o h' => o = .inl (some (.int (nI ks.length))) ∧ h' = h) := by
  obtain ⟨f, h1, h2, h3, h4, h5, h6⟩ := H
  refine xMet_of (L := [_]) (by decide) (Nat.le_of_ble_eq_true rfl) rfl ?_
  refine ex_aload_n dResu_count_0 rfl ?_
  refine ex_get dResu_count_1 fg_Resu_15 h1 rfl ?_
  exact ex_iret dResu_count_4 rfl (Nat.le_refl _) (Nat.le_refl _) ⟨rfl, rfl⟩
theorem c_Resu_isTooMany (H : Rs h a ks tm) : xMet l G mResu_isTooMany d 0 0 [.ref a] h (fun o h' => o = .inl (some (.int (bI tm))) ∧ h' = h) := by
  obtain ⟨f, h1, h2, h3, h4, h5, h6⟩ := H
  refine xMet_of (L := [_]) (by decide) (Nat.le_of_ble_eq_true rfl) rfl ?_
  refine ex_aload_n dResu_isTooMany_0 rfl ?_
  refine ex_get dResu_isTooMany_1 fg_Resu_19 h1 rfl ?_
  exact ex_zret dResu_isTooMany_4 rfl (bI_01 _) (Nat.le_refl _) (Nat.le_refl _) ⟨rfl, rfl⟩
theorem c_Resu_clear (H : Rs h a ks tm) : xMet l G mResu_clear d 0 0 [.ref a] h (fun o h' => o = .inl none ∧ Rs h' a [] false ∧ Sm h h' a (a + 2)) := by
  obtain ⟨f, h1, h2, h3, h4, h5, h6⟩ := H
  refine xMet_of (L := [_]) (by decide) (Nat.le_of_ble_eq_true rfl) rfl ?_
  refine ex_aload_n dResu_clear_0 rfl ?_
  refine ex_iconst (v := nI 0) dResu_clear_1 (by decide) ?_
  refine ex_put (fs' := [_, _, _]) dResu_clear_2 (fp_Resu_15 _) h1 rfl rfl (Nat.le_of_ble_eq_true rfl) rfl ?_
  refine ex_aload_n dResu_clear_5 rfl ?_
  refine ex_iconst (v := nI 0) dResu_clear_6 (by decide) ?_
  refine ex_put (fs' := [_, _, _]) dResu_clear_7 (fp_Resu_19 _) (xup_self _ _ _) (bI_nar false) (bI_fits false) (Nat.le_of_ble_eq_true rfl) rfl ?_
  refine ex_vret dResu_clear_10 rfl (Nat.le_refl _) (Nat.le_refl _) ⟨rfl, ⟨f, xup_self _ _ _, ?_, by simp, fun j hj => absurd hj (Nat.not_lt_zero _), fun k hk => by simp at hk, List.Pairwise.nil⟩, (Sm.up (by omega) (by omega)).trans (Sm.up (by omega) (by omega))⟩
  rw [xup_ne _ _ (by omega), xup_ne _ _ (by omega)]; exact h2
theorem c_Resu_copy {b : Nat} {ks' : List Nat} {tm' : Bool} (hab : b + 2 ≤ a ∨ a + 2 ≤ b) (H : Rs h a ks tm) (H' : Rs h b ks' tm') : xMet l G mResu_copy d 0 0 [.ref a, .ref b] h (fun o h' => o = .inl none ∧ Rs h' a ks' tm' ∧ Sm h h' a (a + 2)) := by
  obtain ⟨f, h1, h2, h3, h4, h5, h6⟩ := H
  obtain ⟨g, g1, g2, g3, g4, g5, g6⟩ := H'
  have e1 : (xup h (a + 1) (cL 60 (fun j => if j < 60 then g j else f j))).2 b = some (cResu b ks'.length tm') := by rw [xup_ne _ _ (by omega)]; exact g1
  have e2 : (xup h (a + 1) (cL 60 (fun j => if j < 60 then g j else f j))).2 a = some (cResu a ks.length tm) := by rw [xup_ne _ _ (by omega)]; exact h1
  have e3 : (xup (xup h (a + 1) (cL 60 (fun j => if j < 60 then g j else f j))) a (cResu a ks'.length tm)).2 b = some (cResu b ks'.length tm') := by rw [xup_ne _ _ (by omega)]; exact e1
  refine xMet_of (L := [_, _]) (by decide) (Nat.le_of_ble_eq_true rfl) rfl ?_
  refine ex_aload_n dResu_copy_0 rfl ?_
  refine ex_get dResu_copy_1 fg_Resu_9 g1 rfl ?_
  refine ex_iconst (v := nI 0) dResu_copy_4 (by decide) ?_
  refine ex_aload_n dResu_copy_5 rfl ?_
  refine ex_get dResu_copy_6 fg_Resu_9 h1 rfl ?_
  refine ex_iconst (v := nI 0) dResu_copy_9 (by decide) ?_
  refine ex_bipush (v := nI 60) dResu_copy_10 (by decide) ?_
  refine ex_copyl dResu_copy_12 ac_l ac_n ac_s ac_i g2 h2 rfl rfl rfl (Nat.le_refl _) (Nat.le_refl _) (by decide) (Nat.le_of_ble_eq_true rfl) ?_
  refine ex_aload_n dResu_copy_15 rfl ?_
  refine ex_aload_n dResu_copy_16 rfl ?_
  refine ex_get dResu_copy_17 fg_Resu_15 e1 rfl ?_
  refine ex_put (fs' := [_, _, _]) dResu_copy_20 (fp_Resu_15 _) e2 rfl rfl (Nat.le_of_ble_eq_true rfl) rfl ?_
  refine ex_aload_n dResu_copy_23 rfl ?_
  refine ex_aload_n dResu_copy_24 rfl ?_
  refine ex_get dResu_copy_25 fg_Resu_19 e3 rfl ?_
  refine ex_put (fs' := [_, _, _]) dResu_copy_28 (fp_Resu_19 _) (xup_self _ _ _) (bI_nar _) (bI_fits _) (Nat.le_of_ble_eq_true rfl) rfl ?_
  refine ex_vret dResu_copy_31 rfl (Nat.le_refl _) (Nat.le_refl _) ⟨rfl, ⟨fun j => if j < 60 then g j else f j, xup_self _ _ _, ?_, g3, fun j hj => ?_, g5, g6⟩, ((Sm.up (by omega) (by omega)).trans (Sm.up (by omega) (by omega))).trans (Sm.up (by omega) (by omega))⟩
  · rw [xup_ne _ _ (by omega), xup_ne _ _ (by omega), xup_self]
  · dsimp only; rw [if_pos (by omega)]; exact g4 j hj
theorem c_Resu_add {k : Nat} (hk : k < 2 ^ 62) (H : Rs h a ks tm) : xMet l G mResu_add d 0 0 [.ref a, .long (lN k)] h (fun o h' => o = .inl none ∧ Rs h' a (radd (ks, tm) k).1 (radd (ks, tm) k).2 ∧ Sm h h' a (a + 2)) := by
  have H0 := H
  obtain ⟨f, h1, h2, h3, h4, h5, h6⟩ := H
  have hkb : ∀ j, j < ks.length → ks.getD j 0 < 2 ^ 62 := fun j hj => h5 _ (getD_mem hj)
  have shift : ∀ (z at_ i : Nat) (hi : xH) (g : Nat → Int64), at_ + z = i → i ≤ ks.length → ks.length < 60 → k ∉ ks → (∀ j, j < at_ → ks.getD j 0 < k) → (∀ j, at_ ≤ j → j < ks.length → k < ks.getD j 0) → hi.2 a = some (cResu a ks.length tm) → hi.2 (a + 1) = some (cL 60 g) → (∀ j, j < i → g j = lN (ks.getD j 0)) → (∀ j, i < j → j ≤ ks.length → g j = lN (ks.getD (j - 1) 0)) → Sm h hi a (a + 2) → Ex (l, G, d, 0, 0, h, fun o h' => o = .inl none ∧ Rs h' a (radd (ks, tm) k).1 (radd (ks, tm) k).2 ∧ Sm h h' a (a + 2)) mResu_add 67 [some (.ref a), some (.long (lN k)), none, some (.int (nI at_)), some (.int (nI i))] [] hi 0 0 := by
    intro z
    induction z with
    | zero =>
      intro at_ i hi g hz hin hlt hnk ha hb e1 e2 e3 e4 hS
      have e : i = at_ := by omega
      subst e
      refine ex_iload dResu_add_67 rfl ?_
      refine ex_iload_n dResu_add_69 rfl ?_
      refine ex_icmp_le (tgt := 95) dResu_add_70 (by decide) (fun hc => ?_) (fun hc => ?_)
      · have e5 : (xup hi (a + 1) (cL 60 (vp_updL g i (lN k)))).2 a = some (cResu a ks.length tm) := by rw [xup_ne _ _ (by omega)]; exact e1
        refine ex_aload_n dResu_add_95 rfl ?_
        refine ex_get dResu_add_96 fg_Resu_9 e1 rfl ?_
        refine ex_iload_n dResu_add_99 rfl ?_
        refine ex_lload_n dResu_add_100 rfl ?_
        refine ex_lastore dResu_add_101 e2 rfl (by omega) (by omega) ?_
        refine ex_aload_n dResu_add_102 rfl ?_
        refine ex_dup dResu_add_103 rfl ?_
        refine ex_get dResu_add_104 fg_Resu_15 e5 rfl ?_
        refine ex_iconst (v := nI 1) dResu_add_107 (by decide) ?_
        refine ex_iadd dResu_add_108 ?_
        rw [show nI ks.length + nI 1 = nI (ks.length + 1) from nI_add _ _]
        refine ex_put (fs' := [_, _, _]) dResu_add_109 (fp_Resu_15 _) e5 rfl rfl (Nat.le_of_ble_eq_true rfl) rfl ?_
        have hr : radd (ks, tm) k = (ins k ks, tm) := by unfold radd; rw [if_neg hnk, if_neg (by show ¬ 60 ≤ ks.length; omega)]
        refine ex_vret dResu_add_112 rfl (Nat.le_refl _) (Nat.le_refl _) ⟨rfl, ?_, (hS.trans (Sm.up (by omega) (by omega))).trans (Sm.up (by omega) (by omega))⟩
        rw [hr]
        refine ⟨vp_updL g i (lN k), by rw [ins_len]; exact xup_self _ _ _, by rw [xup_ne _ _ (by omega), xup_self], by rw [ins_len]; omega, fun j hj => ?_, fun q hq => ?_, ins_sorted h6 hnk⟩
        · rw [ins_len] at hj
          have hsp := ins_split ks i (by omega) ha hb
          dsimp only
          rw [hsp]
          by_cases e : j = i
          · subst e
            rw [pk_uLs, List.getD_eq_getElem?_getD, List.getElem?_append_right (by simp [List.length_take]; omega)]
            simp [List.length_take, Nat.min_eq_left hin]
          · rw [pk_uLn e]
            by_cases hji : j < i
            · rw [e3 j hji, List.getD_eq_getElem?_getD, List.getD_eq_getElem?_getD, List.getElem?_append_left (by rw [List.length_take]; omega), List.getElem?_take_of_lt hji]
            · rw [e4 j (by omega) (by omega), List.getD_eq_getElem?_getD, List.getD_eq_getElem?_getD, List.getElem?_append_right (by rw [List.length_take]; omega), List.length_take, Nat.min_eq_left hin, show j - i = (j - 1 - i) + 1 by omega, List.getElem?_cons_succ, List.getElem?_drop, show i + (j - 1 - i) = j - 1 by omega]
        · rcases ins_mem.mp hq with rfl | q1
          · exact hk
          · exact h5 q q1
      · exact absurd (nI_le (by omega) (by omega)) hc
    | succ z ih =>
      intro at_ i hi g hz hin hlt hnk ha hb e1 e2 e3 e4 hS
      refine ex_iload dResu_add_67 rfl ?_
      refine ex_iload_n dResu_add_69 rfl ?_
      refine ex_icmp_le (tgt := 95) dResu_add_70 (by decide) (fun hc => ?_) (fun hc => ?_)
      · exact absurd hc (nI_ge (by omega) (by omega))
      refine ex_aload_n dResu_add_73 rfl ?_
      refine ex_get dResu_add_74 fg_Resu_9 e1 rfl ?_
      refine ex_iload dResu_add_77 rfl ?_
      refine ex_aload_n dResu_add_79 rfl ?_
      refine ex_get dResu_add_80 fg_Resu_9 e1 rfl ?_
      refine ex_iload dResu_add_83 rfl ?_
      refine ex_iconst (v := nI 1) dResu_add_85 (by decide) ?_
      refine ex_isub dResu_add_86 ?_
      rw [show nI i - nI 1 = nI (i - 1) from pk_sub (by omega)]
      refine ex_laload dResu_add_87 e2 rfl (by omega) (by omega) ?_
      refine ex_lastore dResu_add_88 e2 rfl (by omega) (by omega) ?_
      refine ex_iinc (L' := [_, _, _, _, _]) dResu_add_89 rfl rfl (by decide) rfl ?_
      refine ex_goto (tgt := 67) dResu_add_92 (by decide) ?_
      rw [show nI i + Int32.ofInt (-1) = nI (i - 1) from by rw [show Int32.ofInt (-1) = -nI 1 from by decide, ← Int32.sub_eq_add_neg, pk_sub (by omega)]]
      refine ih at_ (i - 1) _ (vp_updL g i (g (i - 1))) (by omega) (by omega) hlt hnk ha hb (by rw [xup_ne _ _ (by omega)]; exact e1) (xup_self _ _ _) (fun j hj => by rw [pk_uLn (by omega)]; exact e3 j (by omega)) (fun j hj hl => ?_) (hS.trans (Sm.up (by omega) (by omega)))
      by_cases e : j = i
      · subst e; rw [pk_uLs, e3 (j - 1) (by omega)]
      · rw [pk_uLn e, e4 j (by omega) hl]
  have put : ∀ at_ : Nat, at_ ≤ ks.length → k ∉ ks → (∀ j, j < at_ → ks.getD j 0 < k) → (∀ j, at_ ≤ j → j < ks.length → k < ks.getD j 0) → Ex (l, G, d, 0, 0, h, fun o h' => o = .inl none ∧ Rs h' a (radd (ks, tm) k).1 (radd (ks, tm) k).2 ∧ Sm h h' a (a + 2)) mResu_add 46 [some (.ref a), some (.long (lN k)), none, some (.int (nI at_)), none] [] h 0 0 := by
    intro at_ hat hnk ha hb
    refine ex_aload_n dResu_add_46 rfl ?_
    refine ex_get dResu_add_47 fg_Resu_15 h1 rfl ?_
    refine ex_bipush (v := nI 60) dResu_add_50 (by decide) ?_
    refine ex_icmp_lt (tgt := 61) dResu_add_52 (by decide) (fun hc => ?_) (fun hc => ?_)
    · rw [nI_ltI (by omega) (by omega)] at hc
      refine ex_aload_n dResu_add_61 rfl ?_
      refine ex_get dResu_add_62 fg_Resu_15 h1 rfl ?_
      refine ex_istore (L' := [_, _, _, _, _]) dResu_add_65 (by decide) rfl ?_
      exact shift (ks.length - at_) at_ ks.length h f (by omega) (Nat.le_refl _) hc hnk ha hb h1 h2 h4 (fun j h1 h2 => by omega) Sm.rf
    · rw [nI_ltI (by omega) (by omega)] at hc
      refine ex_aload_n dResu_add_55 rfl ?_
      refine ex_iconst (v := nI 1) dResu_add_56 (by decide) ?_
      refine ex_put (fs' := [_, _, _]) dResu_add_57 (fp_Resu_19 _) h1 (bI_nar true) (bI_fits true) (Nat.le_of_ble_eq_true rfl) rfl ?_
      have hr : radd (ks, tm) k = (ks, true) := by unfold radd; rw [if_neg hnk, if_pos (by show 60 ≤ ks.length; omega)]
      refine ex_vret dResu_add_60 rfl (Nat.le_refl _) (Nat.le_refl _) ⟨rfl, ?_, Sm.up (by omega) (by omega)⟩
      rw [hr]
      exact ⟨f, xup_self _ _ _, by rw [xup_ne _ _ (by omega)]; exact h2, h3, h4, h5, h6⟩
  have low : ∀ at_ : Nat, at_ ≤ ks.length → (∀ j, at_ ≤ j → j < ks.length → k < ks.getD j 0) → (∀ i, at_ = i + 1 → ks.getD i 0 ≤ k) → Ex (l, G, d, 0, 0, h, fun o h' => o = .inl none ∧ Rs h' a (radd (ks, tm) k).1 (radd (ks, tm) k).2 ∧ Sm h h' a (a + 2)) mResu_add 28 [some (.ref a), some (.long (lN k)), none, some (.int (nI at_)), none] [] h 0 0 := by
    intro at_ hat hb hlo
    refine ex_iload_n dResu_add_28 rfl ?_
    refine ex_if_le (tgt := 46) dResu_add_29 (by decide) (fun hc => ?_) (fun hc => ?_)
    · have e : at_ = 0 := by have := (nI_leI (b := 0) (by omega) (by omega)).mp hc; omega
      subst e
      refine put 0 hat (fun q => ?_) (fun j hj => absurd hj (Nat.not_lt_zero _)) hb
      obtain ⟨j, hj, e⟩ := List.getElem_of_mem q
      have := hb j (Nat.zero_le _) hj
      rw [List.getD_eq_getElem?_getD, List.getElem?_eq_getElem hj, Option.getD_some, e] at this
      omega
    · have hp : 0 < at_ := by
        rcases Nat.eq_zero_or_pos at_ with e | e
        · subst e; exact absurd (Int32.le_refl _) hc
        · exact e
      have hle := hlo (at_ - 1) (by omega)
      refine ex_aload_n dResu_add_32 rfl ?_
      refine ex_get dResu_add_33 fg_Resu_9 h1 rfl ?_
      refine ex_iload_n dResu_add_36 rfl ?_
      refine ex_iconst (v := nI 1) dResu_add_37 (by decide) ?_
      refine ex_isub dResu_add_38 ?_
      rw [show nI at_ - nI 1 = nI (at_ - 1) from pk_sub (by omega)]
      refine ex_laload dResu_add_39 h2 rfl (by omega) (by omega) ?_
      refine ex_lload_n dResu_add_40 rfl ?_
      refine ex_lcmp dResu_add_41 ?_
      rw [h4 (at_ - 1) (by omega)]
      refine ex_if_ne (tgt := 46) dResu_add_42 (by decide) (fun hc2 => ?_) (fun hc2 => ?_)
      · rw [lg_cmp_eq, pk_lEQ (by have := hkb (at_ - 1) (by omega); omega) (by omega)] at hc2
        refine put at_ hat (fun q => ?_) (fun j hj => ?_) hb
        · obtain ⟨j, hj, e⟩ := List.getElem_of_mem q
          have ej : ks.getD j 0 = k := by rw [List.getD_eq_getElem?_getD, List.getElem?_eq_getElem hj, Option.getD_some, e]
          rcases Nat.lt_trichotomy j (at_ - 1) with hlt | heq | hgt
          · have := sorted_get h6 hlt (by omega); omega
          · subst heq; exact hc2 ej
          · have := hb j (by omega) hj; omega
        · by_cases e : j = at_ - 1
          · subst e; omega
          · have := sorted_get h6 (show j < at_ - 1 by omega) (by omega); omega
      · rw [lg_cmp_eq, pk_lEQ (by have := hkb (at_ - 1) (by omega); omega) (by omega)] at hc2
        have hm : k ∈ ks := by rw [← hc2]; exact getD_mem (by omega)
        have hr : radd (ks, tm) k = (ks, tm) := by unfold radd; rw [if_pos hm]
        refine ex_vret dResu_add_45 rfl (Nat.le_refl _) (Nat.le_refl _) ⟨rfl, ?_, Sm.rf⟩
        rw [hr]
        exact H0
  have loop : ∀ at_ : Nat, at_ ≤ ks.length → (∀ j, at_ ≤ j → j < ks.length → k < ks.getD j 0) → Ex (l, G, d, 0, 0, h, fun o h' => o = .inl none ∧ Rs h' a (radd (ks, tm) k).1 (radd (ks, tm) k).2 ∧ Sm h h' a (a + 2)) mResu_add 5 [some (.ref a), some (.long (lN k)), none, some (.int (nI at_)), none] [] h 0 0 := by
    intro at_
    induction at_ with
    | zero =>
      intro hat hb
      refine ex_iload_n dResu_add_5 rfl ?_
      refine ex_if_le (tgt := 28) dResu_add_6 (by decide) (fun hc => ?_) (fun hc => ?_)
      · exact low 0 hat hb (fun i hi => by omega)
      · exact absurd (Int32.le_refl _) hc
    | succ at_ ih =>
      intro hat hb
      refine ex_iload_n dResu_add_5 rfl ?_
      refine ex_if_le (tgt := 28) dResu_add_6 (by decide) (fun hc => ?_) (fun hc => ?_)
      · exact absurd hc (nI_nle (by omega) (by omega))
      refine ex_aload_n dResu_add_9 rfl ?_
      refine ex_get dResu_add_10 fg_Resu_9 h1 rfl ?_
      refine ex_iload_n dResu_add_13 rfl ?_
      refine ex_iconst (v := nI 1) dResu_add_14 (by decide) ?_
      refine ex_isub dResu_add_15 ?_
      rw [show nI (at_ + 1) - nI 1 = nI at_ from pk_sub (a := at_ + 1) (b := 1) (by omega)]
      refine ex_laload dResu_add_16 h2 rfl (by omega) (by omega) ?_
      refine ex_lload_n dResu_add_17 rfl ?_
      refine ex_lcmp dResu_add_18 ?_
      rw [h4 at_ (by omega)]
      refine ex_if_le (tgt := 28) dResu_add_19 (by decide) (fun hc2 => ?_) (fun hc2 => ?_)
      · rw [lg_cmp_le, pk_lLE (by have := hkb at_ (by omega); omega) (by omega)] at hc2
        exact low (at_ + 1) hat hb (fun i hi => by have e : i = at_ := by omega
                                                   subst e; exact hc2)
      · rw [lg_cmp_le, pk_lLE (by have := hkb at_ (by omega); omega) (by omega)] at hc2
        refine ex_iinc (L' := [_, _, _, _, _]) dResu_add_22 rfl rfl (by decide) rfl ?_
        refine ex_goto (tgt := 5) dResu_add_25 (by decide) ?_
        rw [show nI (at_ + 1) + Int32.ofInt (-1) = nI at_ from by rw [show Int32.ofInt (-1) = -nI 1 from by decide, ← Int32.sub_eq_add_neg, pk_sub (by omega)]; rfl]
        refine ih (by omega) (fun j hj hl => ?_)
        by_cases e : j = at_
        · subst e; omega
        · exact hb j (by omega) hl
  refine xMet_of (L := [_, _, _, _, _]) (by decide) (Nat.le_of_ble_eq_true rfl) rfl ?_
  refine ex_aload_n dResu_add_0 rfl ?_
  refine ex_get dResu_add_1 fg_Resu_15 h1 rfl ?_
  refine ex_istore_n (L' := [_, _, _, _, _]) dResu_add_4 (by decide) rfl ?_
  exact loop ks.length (Nat.le_refl _) (fun j h1 h2 => by omega)
theorem c_Resu_keyOf {N e n : Nat} {wd : List Nat} {es : Nat → Nat} (hw : wd.length ≤ 5) (hws : ∀ i, wd.getD i 0 < 8) (hn : n ≤ 4) (hes : ∀ i, i < n → es i < 8) (HL : Ln h a N wd) (he : n = 0 ∨ ∃ g : Nat → Int32, h.2 e = some (cI 4 g) ∧ ∀ i, i < n → g i = nI (es i)) : xMet l G mResu_keyOf (d + 1) 0 0 [.ref a, .ref e, .int (nI n)] h (fun o h' => o = .inl (some (.long (lN (rkey wd es n)))) ∧ h' = h) := by
  have HL0 := HL
  obtain ⟨f, h1, h2, h3, h4, h5⟩ := HL
  have hK : kcat wd.length (fun i => wd.getD i 0) 5 < 6 * 8 ^ 5 := Nat.lt_of_lt_of_le (kcat_lt (fun i _ => hws i)) (Nat.mul_le_mul_right _ (by omega))
  have hes' : ∀ i, (if i < n then es i else 0) < 8 := fun i => by split; exact hes i (by assumption); omega
  have loop2 : ∀ j i : Nat, i + j = 4 → Ex (l, G, d + 1, 0, 0, h, fun o h' => o = .inl (some (.long (lN (rkey wd es n)))) ∧ h' = h) mResu_keyOf 43 [some (.ref a), some (.ref e), some (.int (nI n)), some (.long (lN (kcat (kcat wd.length (fun i => wd.getD i 0) 5 * 8 + n) (fun i => if i < n then es i else 0) i))), none, some (.int (nI i))] [] h 0 0 := by
    intro j
    induction j with
    | zero =>
      intro i hij
      have e9 : i = 4 := by omega
      subst e9
      refine ex_iload dResu_keyOf_43 rfl ?_
      refine ex_iconst (v := nI 4) dResu_keyOf_45 (by decide) ?_
      refine ex_icmp_ge (tgt := 82) dResu_keyOf_46 (by decide) (fun hc => ?_) (fun hc => ?_)
      · refine ex_lload_n dResu_keyOf_82 rfl ?_
        exact ex_lret dResu_keyOf_83 rfl (Nat.le_refl _) (Nat.le_refl _) ⟨rfl, rfl⟩
      · exact absurd (by decide) hc
    | succ j ih =>
      intro i hij
      have hb9 : kcat (kcat wd.length (fun i => wd.getD i 0) 5 * 8 + n) (fun i => if i < n then es i else 0) i < 2 ^ 50 := by
        refine Nat.lt_of_lt_of_le (kcat_lt (fun i _ => hes' i)) ?_
        exact Nat.le_trans (Nat.mul_le_mul (show _ ≤ 6 * 8 ^ 5 * 8 + 5 by omega) (Nat.pow_le_pow_right (by omega) (show i ≤ 4 by omega))) (by decide)
      have tail : ∀ x : Nat, x = (if i < n then es i else 0) → Ex (l, G, d + 1, 0, 0, h, fun o h' => o = .inl (some (.long (lN (rkey wd es n)))) ∧ h' = h) mResu_keyOf 73 [some (.ref a), some (.ref e), some (.int (nI n)), some (.long (lN (kcat (kcat wd.length (fun i => wd.getD i 0) 5 * 8 + n) (fun i => if i < n then es i else 0) i))), none, some (.int (nI i))] [.int (nI x), .long (lN (kcat (kcat wd.length (fun i => wd.getD i 0) 5 * 8 + n) (fun i => if i < n then es i else 0) i * 2 ^ 3))] h 0 0 := by
        intro x hx
        have hx8 : x < 8 := by rw [hx]; exact hes' i
        refine ex_i2l dResu_keyOf_73 ?_
        refine ex_lor dResu_keyOf_74 ?_
        rw [nI_l (by omega), g_or (k := 3) rfl (by omega) (by omega)]
        refine ex_lstore_n (L' := [_, _, _, _, _, _]) dResu_keyOf_75 (by decide) rfl ?_
        refine ex_iinc (L' := [_, _, _, _, _, _]) dResu_keyOf_76 rfl rfl (by decide) rfl ?_
        refine ex_goto (tgt := 43) dResu_keyOf_79 (by decide) ?_
        rw [show nI i + Int32.ofInt 1 = nI (i + 1) from nI_1 i, hx]
        exact ih (i + 1) (by omega)
      refine ex_iload dResu_keyOf_43 rfl ?_
      refine ex_iconst (v := nI 4) dResu_keyOf_45 (by decide) ?_
      refine ex_icmp_ge (tgt := 82) dResu_keyOf_46 (by decide) (fun hc => ?_) (fun hc => ?_)
      · exact absurd hc (nI_ge (by omega) (by omega))
      refine ex_lload_n dResu_keyOf_49 rfl ?_
      refine ex_iconst (v := nI 3) dResu_keyOf_50 (by decide) ?_
      refine ex_lshl dResu_keyOf_51 ?_
      rw [wb_shl _ (by omega)]
      refine ex_iload dResu_keyOf_52 rfl ?_
      refine ex_iload_n dResu_keyOf_54 rfl ?_
      refine ex_icmp_ge (tgt := 72) dResu_keyOf_55 (by decide) (fun hc2 => ?_) (fun hc2 => ?_)
      · rw [nI_leI (by omega) (by omega)] at hc2
        refine ex_iconst (v := nI 0) dResu_keyOf_72 (by decide) ?_
        exact tail 0 (by rw [if_neg (by omega)])
      · rw [nI_leI (by omega) (by omega)] at hc2
        rcases he with he | ⟨g, he1, he2⟩
        · omega
        refine ex_iload dResu_keyOf_58 rfl ?_
        refine ex_aload_n dResu_keyOf_60 rfl ?_
        refine ex_alen dResu_keyOf_61 he1 (fun _ => rfl) ?_
        refine ex_icmp_ge (tgt := 72) dResu_keyOf_62 (by decide) (fun hc3 => ?_) (fun hc3 => ?_)
        · exact absurd hc3 (nI_ge (by omega) (by omega))
        refine ex_aload_n dResu_keyOf_65 rfl ?_
        refine ex_iload dResu_keyOf_66 rfl ?_
        refine ex_iaload dResu_keyOf_68 he1 rfl (by omega) (by omega) ?_
        refine ex_goto (tgt := 73) dResu_keyOf_69 (by decide) ?_
        rw [he2 i (by omega)]
        exact tail (es i) (by rw [if_pos (by omega)])
  have loop1 : ∀ j i : Nat, i + j = 5 → Ex (l, G, d + 1, 0, 0, h, fun o h' => o = .inl (some (.long (lN (rkey wd es n)))) ∧ h' = h) mResu_keyOf 9 [some (.ref a), some (.ref e), some (.int (nI n)), some (.long (lN (kcat wd.length (fun i => wd.getD i 0) i))), none, some (.int (nI i))] [] h 0 0 := by
    intro j
    induction j with
    | zero =>
      intro i hij
      have e9 : i = 5 := by omega
      subst e9
      refine ex_iload dResu_keyOf_9 rfl ?_
      refine ex_iconst (v := nI 5) dResu_keyOf_11 (by decide) ?_
      refine ex_icmp_ge (tgt := 33) dResu_keyOf_12 (by decide) (fun hc => ?_) (fun hc => ?_)
      · refine ex_lload_n dResu_keyOf_33 rfl ?_
        refine ex_iconst (v := nI 3) dResu_keyOf_34 (by decide) ?_
        refine ex_lshl dResu_keyOf_35 ?_
        refine ex_iload_n dResu_keyOf_36 rfl ?_
        refine ex_i2l dResu_keyOf_37 ?_
        rw [nI_l (by omega), wb_shl _ (by omega)]
        refine ex_lor dResu_keyOf_38 ?_
        rw [g_or (k := 3) rfl (by omega) (by omega)]
        refine ex_lstore_n (L' := [_, _, _, _, _, _]) dResu_keyOf_39 (by decide) rfl ?_
        refine ex_iconst (v := nI 0) dResu_keyOf_40 (by decide) ?_
        refine ex_istore (L' := [_, _, _, _, _, _]) dResu_keyOf_41 (by decide) rfl ?_
        exact loop2 4 0 (by omega)
      · exact absurd (by decide) hc
    | succ j ih =>
      intro i hij
      have hb9 : kcat wd.length (fun i => wd.getD i 0) i < 2 ^ 50 := by
        refine Nat.lt_of_lt_of_le (kcat_lt (fun i _ => hws i)) ?_
        exact Nat.le_trans (Nat.mul_le_mul (show _ ≤ 6 by omega) (Nat.pow_le_pow_right (by omega) (show i ≤ 5 by omega))) (by decide)
      refine ex_iload dResu_keyOf_9 rfl ?_
      refine ex_iconst (v := nI 5) dResu_keyOf_11 (by decide) ?_
      refine ex_icmp_ge (tgt := 33) dResu_keyOf_12 (by decide) (fun hc => ?_) (fun hc => ?_)
      · exact absurd hc (nI_ge (by omega) (by omega))
      refine ex_lload_n dResu_keyOf_15 rfl ?_
      refine ex_iconst (v := nI 3) dResu_keyOf_16 (by decide) ?_
      refine ex_lshl dResu_keyOf_17 ?_
      rw [wb_shl _ (by omega)]
      refine ex_aload_n dResu_keyOf_18 rfl ?_
      refine ex_iload dResu_keyOf_19 rfl ?_
      refine ex_v1 dResu_keyOf_21 iv_Resu_35 cd_Line_signAt ar_Line_signAt h1 (c_Line_signAt (d := d) (i := i) (by omega) HL0) (by dsimp only; omega) (Nat.le_of_ble_eq_true rfl) (Nat.le_refl _) (Nat.le_refl _) (fun E h9 q9 => by simp at q9) (fun v9 hp9 hq => ?_)
      obtain ⟨e3, e2⟩ := hq
      cases e3
      rw [e2]
      refine ex_i2l dResu_keyOf_24 ?_
      rw [nI_l (by have := hws i; omega)]
      refine ex_lor dResu_keyOf_25 ?_
      rw [g_or (k := 3) rfl (by have := hws i; omega) (by have := hws i; omega)]
      refine ex_lstore_n (L' := [_, _, _, _, _, _]) dResu_keyOf_26 (by decide) rfl ?_
      refine ex_iinc (L' := [_, _, _, _, _, _]) dResu_keyOf_27 rfl rfl (by decide) rfl ?_
      refine ex_goto (tgt := 9) dResu_keyOf_30 (by decide) ?_
      rw [show nI i + Int32.ofInt 1 = nI (i + 1) from nI_1 i]
      exact ih (i + 1) (by omega)
  refine xMet_of (L := [_, _, _, _, _, _]) (by decide) (Nat.le_of_ble_eq_true rfl) rfl ?_
  refine ex_aload_n dResu_keyOf_0 rfl ?_
  refine ex_v0 dResu_keyOf_1 iv_Resu_29 cd_Line_size ar_Line_size h1 (c_Line_size (d := d) HL0) (by dsimp only; omega) (Nat.le_of_ble_eq_true rfl) (Nat.le_refl _) (Nat.le_refl _) (fun E h9 q9 => by simp at q9) (fun v9 hp9 hq => ?_)
  obtain ⟨e3, e2⟩ := hq
  cases e3
  rw [e2]
  refine ex_i2l dResu_keyOf_4 ?_
  rw [nI_l (by omega)]
  refine ex_lstore_n (L' := [_, _, _, _, _, _]) dResu_keyOf_5 (by decide) rfl ?_
  refine ex_iconst (v := nI 0) dResu_keyOf_6 (by decide) ?_
  refine ex_istore (L' := [_, _, _, _, _, _]) dResu_keyOf_7 (by decide) rfl ?_
  exact loop1 5 0 (by omega)
def rdig (k dg : Nat) : Nat := k / 2 ^ (3 * (10 - dg)) % 8
theorem c_Resu_digitOf {i dg : Nat} (hi : i < ks.length) (hdg : dg ≤ 10) (H : Rs h a ks tm) : xMet l G mResu_digitOf d 0 0 [.ref a, .int (nI i), .int (nI dg)] h (fun o h' => o = .inl (some (.int (nI (rdig (ks.getD i 0) dg)))) ∧ h' = h) := by
  obtain ⟨f, h1, h2, h3, h4, h5, h6⟩ := H
  have hb := h5 _ (getD_mem (d := 0) hi)
  have hq := Nat.div_le_self (ks.getD i 0) (2 ^ (3 * (10 - dg)))
  refine xMet_of (L := [_, _, _, _, _]) (by decide) (Nat.le_of_ble_eq_true rfl) rfl ?_
  refine ex_ldc2 dResu_digitOf_0 kl_Resu_43 ?_
  refine ex_lstore_n (L' := [_, _, _, _, _]) dResu_digitOf_3 (by decide) rfl ?_
  refine ex_aload_n dResu_digitOf_4 rfl ?_
  refine ex_get dResu_digitOf_5 fg_Resu_9 h1 rfl ?_
  refine ex_iload_n dResu_digitOf_8 rfl ?_
  refine ex_laload dResu_digitOf_9 h2 rfl (by omega) (by omega) ?_
  refine ex_iconst (v := nI 3) dResu_digitOf_10 (by decide) ?_
  refine ex_bipush (v := nI 10) dResu_digitOf_11 (by decide) ?_
  refine ex_iload_n dResu_digitOf_13 rfl ?_
  refine ex_isub dResu_digitOf_14 ?_
  rw [h4 i hi, pk_sub hdg]
  refine ex_imul dResu_digitOf_15 ?_
  rw [pk_mul]
  refine ex_lshr dResu_digitOf_16 ?_
  rw [wb_c _ (by omega), pf_shr (d := 3 * (10 - dg)) (by rw [wb_tb, wb_sm _ (by omega), BitVec.toNat_ofNat, Nat.mod_eq_of_lt (by omega)]) hb]
  refine ex_lload_n dResu_digitOf_17 rfl ?_
  refine ex_land dResu_digitOf_18 ?_
  rw [show (7 : Int64) = lN 7 from rfl, wb_and (by omega) (by omega), Nat.and_two_pow_sub_one_eq_mod _ 3]
  refine ex_l2i dResu_digitOf_19 ?_
  rw [lN_i]
  exact ex_iret dResu_digitOf_20 rfl (Nat.le_refl _) (Nat.le_refl _) ⟨rfl, rfl⟩
theorem c_Resu_signsOf {i : Nat} (hi : i < ks.length) (H : Rs h a ks tm) : xMet l G mResu_signsOf (d + 1) 0 0 [.ref a, .int (nI i)] h (fun o h' => o = .inl (some (.int (nI (rdig (ks.getD i 0) (0))))) ∧ h' = h) := by
  have H0 := H
  obtain ⟨f, h1, h2, h3, h4, h5, h6⟩ := H
  refine xMet_of (L := [_, _]) (by decide) (Nat.le_of_ble_eq_true rfl) rfl ?_
  refine ex_aload_n dResu_signsOf_0 rfl ?_
  refine ex_iload_n dResu_signsOf_1 rfl ?_
  refine ex_iconst (v := nI 0) dResu_signsOf_2 (by decide) ?_
  refine ex_p2 dResu_signsOf_3 ip_Resu_39 cd_Resu_digitOf ar_Resu_digitOf h1 (c_Resu_digitOf (d := d) (dg := 0) hi (by omega) H0) (by dsimp only; omega) (Nat.le_of_ble_eq_true rfl) (Nat.le_refl _) (Nat.le_refl _) (fun E h9 q9 => by simp at q9) (fun v9 hp9 hq => ?_)
  obtain ⟨e, e2⟩ := hq
  cases e
  exact ex_iret dResu_signsOf_6 rfl (Nat.le_refl _) (Nat.le_refl _) ⟨rfl, e2⟩
theorem c_Resu_signOf {i j : Nat} (hj : j < 5) (hi : i < ks.length) (H : Rs h a ks tm) : xMet l G mResu_signOf (d + 1) 0 0 [.ref a, .int (nI i), .int (nI j)] h (fun o h' => o = .inl (some (.int (nI (rdig (ks.getD i 0) (1 + j))))) ∧ h' = h) := by
  have H0 := H
  obtain ⟨f, h1, h2, h3, h4, h5, h6⟩ := H
  refine xMet_of (L := [_, _, _]) (by decide) (Nat.le_of_ble_eq_true rfl) rfl ?_
  refine ex_aload_n dResu_signOf_0 rfl ?_
  refine ex_iload_n dResu_signOf_1 rfl ?_
  refine ex_iconst (v := nI 1) dResu_signOf_2 (by decide) ?_
  refine ex_iload_n dResu_signOf_3 rfl ?_
  refine ex_iadd dResu_signOf_4 ?_
  rw [nI_add]
  refine ex_p2 dResu_signOf_5 ip_Resu_39 cd_Resu_digitOf ar_Resu_digitOf h1 (c_Resu_digitOf (d := d) (dg := 1 + j) hi (by omega) H0) (by dsimp only; omega) (Nat.le_of_ble_eq_true rfl) (Nat.le_refl _) (Nat.le_refl _) (fun E h9 q9 => by simp at q9) (fun v9 hp9 hq => ?_)
  obtain ⟨e, e2⟩ := hq
  cases e
  exact ex_iret dResu_signOf_8 rfl (Nat.le_refl _) (Nat.le_refl _) ⟨rfl, e2⟩
theorem c_Resu_entriesOf {i : Nat} (hi : i < ks.length) (H : Rs h a ks tm) : xMet l G mResu_entriesOf (d + 1) 0 0 [.ref a, .int (nI i)] h (fun o h' => o = .inl (some (.int (nI (rdig (ks.getD i 0) (6))))) ∧ h' = h) := by
  have H0 := H
  obtain ⟨f, h1, h2, h3, h4, h5, h6⟩ := H
  refine xMet_of (L := [_, _]) (by decide) (Nat.le_of_ble_eq_true rfl) rfl ?_
  refine ex_aload_n dResu_entriesOf_0 rfl ?_
  refine ex_iload_n dResu_entriesOf_1 rfl ?_
  refine ex_bipush (v := nI 6) dResu_entriesOf_2 (by decide) ?_
  refine ex_p2 dResu_entriesOf_4 ip_Resu_39 cd_Resu_digitOf ar_Resu_digitOf h1 (c_Resu_digitOf (d := d) (dg := 6) hi (by omega) H0) (by dsimp only; omega) (Nat.le_of_ble_eq_true rfl) (Nat.le_refl _) (Nat.le_refl _) (fun E h9 q9 => by simp at q9) (fun v9 hp9 hq => ?_)
  obtain ⟨e, e2⟩ := hq
  cases e
  exact ex_iret dResu_entriesOf_7 rfl (Nat.le_refl _) (Nat.le_refl _) ⟨rfl, e2⟩
theorem c_Resu_entryOf {i j : Nat} (hj : j < 4) (hi : i < ks.length) (H : Rs h a ks tm) : xMet l G mResu_entryOf (d + 1) 0 0 [.ref a, .int (nI i), .int (nI j)] h (fun o h' => o = .inl (some (.int (nI (rdig (ks.getD i 0) (7 + j))))) ∧ h' = h) := by
  have H0 := H
  obtain ⟨f, h1, h2, h3, h4, h5, h6⟩ := H
  refine xMet_of (L := [_, _, _]) (by decide) (Nat.le_of_ble_eq_true rfl) rfl ?_
  refine ex_aload_n dResu_entryOf_0 rfl ?_
  refine ex_iload_n dResu_entryOf_1 rfl ?_
  refine ex_bipush (v := nI 7) dResu_entryOf_2 (by decide) ?_
  refine ex_iload_n dResu_entryOf_4 rfl ?_
  refine ex_iadd dResu_entryOf_5 ?_
  rw [nI_add]
  refine ex_p2 dResu_entryOf_6 ip_Resu_39 cd_Resu_digitOf ar_Resu_digitOf h1 (c_Resu_digitOf (d := d) (dg := 7 + j) hi (by omega) H0) (by dsimp only; omega) (Nat.le_of_ble_eq_true rfl) (Nat.le_refl _) (Nat.le_refl _) (fun E h9 q9 => by simp at q9) (fun v9 hp9 hq => ?_)
  obtain ⟨e, e2⟩ := hq
  cases e
  exact ex_iret dResu_entryOf_9 rfl (Nat.le_refl _) (Nat.le_refl _) ⟨rfl, e2⟩
theorem c_Resu_init (hz : h.1 = a + 1) (h1 : h.2 a = some (.inr (3, [.null, .int 0, .int 0]))) : xMet l G mResu_init d 1 60 [.ref a] h (fun o h' => o = .inl none ∧ Rs h' a [] false ∧ h'.1 = a + 2 ∧ ∀ q : Nat, (q < a ∨ a + 2 ≤ q) → h'.2 q = h.2 q) := by
  refine xMet_of (L := [_]) (by decide) (Nat.le_of_ble_eq_true rfl) rfl ?_
  refine ex_aload_n dResu_init_0 rfl ?_
  refine ex_objInit dResu_init_1 oi_Resu_3 oi_1 oi_2 (by decide) ?_
  refine ex_aload_n dResu_init_4 rfl ?_
  refine ex_bipush (v := nI 60) dResu_init_5 (by decide) ?_
  refine ex_newl dResu_init_7 aw_long rfl (by omega) (Nat.le_of_ble_eq_true rfl) (Nat.le_of_ble_eq_true rfl) ?_
  rw [hz]
  have e1 : (xnew h (cL 60 (fun _ => 0))).2 a = some (.inr (3, [.null, .int 0, .int 0])) := by simp [xnew, hz, h1]
  refine ex_put (fs' := [_, _, _]) dResu_init_9 fp_Resu_9 e1 rfl rfl (Nat.le_of_ble_eq_true rfl) rfl ?_
  refine ex_vret dResu_init_12 rfl (Nat.le_of_ble_eq_true rfl) (Nat.le_of_ble_eq_true rfl) ⟨rfl, ⟨fun _ => 0, ?_, ?_, by simp, fun j hj => absurd hj (Nat.not_lt_zero _), fun k hk => by simp at hk, List.Pairwise.nil⟩, ?_, fun q hq => ?_⟩
  · rw [xup_self]; rfl
  · simp [xnew, xup, hz]
  · simp [xup, xnew, hz]
  · simp [xup, xnew, hz, show q ≠ a by omega, show q ≠ a + 1 by omega]
end RESU
