/-! More rows: boolean arrays, a static, a copy of longs, a constant, throwing, catching. -/
section XMORE
variable {C : xCt} {M : xMt} {pc : Nat} {L : List (Option Value)} {st : List Value} {h : xH} {k n : Nat}
theorem ex_zaload {a N j : Nat} {f : Nat → Int32} {i : Int32} (hd : decode M.2.1 pc = .ok (.baload, 1)) (hh : h.2 a = some (.inl (3, N, .inl f))) (hi : i = nI j) (hj : j < N) (hN : N < 2 ^ 31) (kk : Ex C M (pc + 1) L (.int (f j) :: st) h k n) : Ex C M pc L (.int i :: .ref a :: st) h k n := by
  subst hi
  intro p e s m args below meth c X H locs ls hL hR hS
  have kk := kk p e s m args below meth c X H locs ls hL hR hS
  obtain ⟨hx, hb, -, -, -, -, -, -, -, hK, -⟩ := X
  refine va_zald hx hb hK (xone hR hh) 0 3 rfl rfl (vp_in_nI hj hN) hd ?_
  rw [nI_clamp (by omega)]
  exact kk
theorem ex_zastore {a N j : Nat} {f : Nat → Int32} {i x : Int32} (hd : decode M.2.1 pc = .ok (.bastore, 1)) (hh : h.2 a = some (.inl (3, N, .inl f))) (hi : i = nI j) (hj : j < N) (hN : N < 2 ^ 31) (hx : x = 0 ∨ x = 1) (kk : Ex C M (pc + 1) L st (xup h a (.inl (3, N, .inl (upd f j x)))) k n) : Ex C M pc L (.int x :: .int i :: .ref a :: st) h k n := by
  subst hi
  intro p e s m args below meth c X H locs ls hL hR hS
  have kk := kk p e s m args below meth c X
  obtain ⟨hx9, hb, -, -, -, -, -, -, -, hK, -⟩ := X
  have h0 : H[a]? = some (vp_cell (C.2.1.2.1 3) (N, .inl f)) := hR.2 a _ hh
  have hnar : narrow .boolean (.int x) = .int x := by rcases hx with rfl | rfl <;> decide
  refine W.zast hx9 hb h0 ((hK.2 3 _ rfl).1 N (fun j => .int (f j))) (fun q => by cases q) (by show ¬ (_ ∨ (arrV _ _ _).slots.size ≤ _); rw [arrV_size]; exact vp_in_nI hj hN) rfl rfl hd fun H1 e z oq => ?_
  rw [nI_clamp (by omega)] at e ⊢
  refine kk H1 _ ls hL (xRep_up hR ?_ z oq) (xS_up hS hh z oq)
  show H1[a]? = some (vp_cell _ _)
  rw [e, vp_cell_i, vp_cell_i, arrV_store]
  congr 2
  funext q
  by_cases hq : q = j
  · subst hq
    simp [updV, upd, hnar]
  · simp [updV, upd, hq]
theorem ex_newz {N : Nat} {i : Int32} (hd : decode M.2.1 pc = .ok (.newarray .boolean, 2)) (hw : Cond.arrayClass .boolean ∈ xTAB) (hi : i = nI N) (hN : N < 65536) (hk : k + 1 ≤ C.2.2.2.1) (hn : n + N ≤ C.2.2.2.2.1) (kk : Ex C M (pc + 2) L (.ref h.1 :: st) (xnew h (.inl (3, N, .inl (fun _ => 0)))) (k + 1) (n + N)) : Ex C M pc L (.int i :: st) h k n := by
  subst hi
  intro p e s m args below meth c X H locs ls hL hR hS
  have kk := kk p e s m args below meth c X
  obtain ⟨hx, hb, -, hown, -, -, -, -, -, hK, hts, -⟩ := X
  refine va_newaK (atype := .boolean) hx hb (hts _ hw) rfl hd rfl (nI_pos (by omega)) (nI_clamp (by omega)) (by show N * 1 ≤ _; omega) hk hn hR.1 fun H1 cA e1 z1 o1 hAr hNm => ?_
  have hcA : cA = C.2.1.2.1 3 := Option.some.inj (hNm.symm.trans (va_nm_boolean (hK.2 3 _ rfl).2))
  subst hcA
  exact kk H1 locs ls hL (xRep_new hR (by show H1[h.1]? = some (vp_cell _ _); rw [e1, vp_cell_i]; rfl) z1 o1) (xS_new hS hR z1 o1)
theorem ex_ldc2 {idx : Nat} {v : Int64} (hd : decode M.2.1 pc = .ok (.ldc2_w idx, 3)) (hw : Cond.constantLong M.1.cls idx v ∈ xTAB) (kk : Ex C M (pc + 3) L (.long v :: st) h k n) : Ex C M pc L st h k n := by
  intro p e s m args below meth c X H locs ls hL hR hS
  have kk := kk p e s m args below meth c X H locs ls hL hR hS
  obtain ⟨hx, hb, -, hown, -, -, -, -, -, hK, hts, -⟩ := X
  exact lv_ldc2 hx hb hown (hts _ hw) hd kk
/-- the empty array of the class Writing -/
theorem ex_noEntries {idx : Nat} (hd : decode M.2.1 pc = .ok (.getstatic idx, 3)) (hw : Cond.fieldLink M.1.cls idx "PairedWords$Writing" "NO_ENTRIES" "[I" ∈ xTAB) (kk : ∀ a : Nat, Ex C M (pc + 3) L (.ref a :: st) h k n) : Ex C M pc L st h k n := by
  intro p e s m args below meth c X H locs ls hL hR hS
  have XX := X
  obtain ⟨hx, hb, -, hown, -, -, -, -, -, hK, hts, -, ⟨-, -, -, a, h6⟩, -⟩ := X
  exact va_gets hx hb h6.z hS.va hown (hts _ hw) (fun _ h9 => h9) hd (kk a p e s m args below meth c XX H locs ls hL hR hS)
theorem ex_copyl {a0 a N0 N1 idx N : Nat} {f g : Nat → Int64} {i0 i1 i2 : Int32} (hd : decode M.2.1 pc = .ok (.invokestatic idx, 3)) (hw : Cond.methodLink M.1.cls idx arraycopyName ∈ xTAB) (w1 : Cond.native arraycopyName ∈ xTAB) (w2 : Cond.static arraycopyName ∈ xTAB) (w3 : Cond.initialized "java/lang/System" ∈ xTAB)
    (h0 : h.2 a0 = some (.inl (1, N0, .inr (.inl f)))) (h1 : h.2 a = some (.inl (1, N1, .inr (.inl g)))) (e0 : i0 = 0) (e1 : i1 = 0) (e2 : i2 = nI N) (hN0 : N ≤ N0) (hN1 : N ≤ N1) (hN : N < 2 ^ 31) (hst : (st.map fun v => v.category).sum ≤ 16)
    (kk : Ex C M (pc + 3) L st (xup h a (.inl (1, N1, .inr (.inl (fun j => if j < N then f j else g j))))) k n) : Ex C M pc L (.int i2 :: .int i1 :: .ref a :: .int i0 :: .ref a0 :: st) h k n := by
  subst e0; subst e1; subst e2
  intro p e s m args below meth c X H locs ls hL hR hS T hT XS
  have kk := kk p e s m args below meth c X
  obtain ⟨hx, hb, hml, hown, -, -, -, -, -, hK, hts, -⟩ := X
  have hc0 : H[a0]? = some (vp_cell (C.2.1.2.1 1) (N0, .inr (.inl f))) := hR.2 a0 _ h0
  have hc1 : H[a]? = some (vp_cell (C.2.1.2.1 1) (N1, .inr (.inl g))) := hR.2 a _ h1
  have hcl9 : (nI N).toNatClampNeg = N := nI_clamp hN
  have hto : (nI N).toInt = (N : Int) := nI_toInt hN
  have hz : (0 : Int32).toInt = 0 := rfl
  have hz2 : (0 : Int32).toNatClampNeg = 0 := rfl
  obtain ⟨-, k0, hk0, cm0, hkk0⟩ := (hK.2 1 _ rfl).1 N0 (fun j => .long (f j))
  obtain ⟨-, k1, hk1, cm1, hkk1⟩ := (hK.2 1 _ rfl).1 N1 (fun j => .long (g j))
  obtain ⟨vm', X', step⟩ := XS.arraycopy hx hown (hts _ hw) (hts _ w1) (hts _ w2) (hts _ w3) (src := a0) (dst := a) (cs := vp_cell (C.2.1.2.1 1) (N0, .inr (.inl f))) (cd := vp_cell (C.2.1.2.1 1) (N1, .inr (.inl g))) (srcPos := 0) (destPos := 0) (n := nI N) (by rw [hT]; exact hc0) (by rw [hT]; exact hc1)
    (fun _ h => by cases h) (fun _ h => by cases h) (fun h => by cases h) (fun h => by cases h) hk0 hk1 hkk0 hkk1 (by simp [refKind]) (by decide) (by decide) (nI_pos hN)
    (by rw [hto, hz]; show ¬ _ > ((arrV _ N0 (fun j => .long (f j))).slots.size : Int); rw [arrV_size]; omega)
    (by rw [hto, hz]; show ¬ _ > ((arrV _ N1 (fun j => .long (g j))).slots.size : Int); rw [arrV_size]; omega)
    (fun vm₁ _ i hi => by
      rw [hcl9] at hi
      have e : (vp_cell (C.2.1.2.1 1) (N0, .inr (.inl f))).slots.getD ((0 : Int32).toNatClampNeg + i) .null = .long (f i) := by
        show (arrV _ N0 (fun j => .long (f j))).slots.getD _ _ = _
        rw [hz2, Nat.zero_add, Array.getD_eq_getD_getElem?, arrV_read _ _ (by omega)]
        rfl
      refine ⟨?_, ?_⟩
      · rw [e]; rfl
      · rw [e]; exact trivial)
    (g := F0 m pc ls (.int (nI N) :: .int 0 :: .ref a :: .int 0 :: .ref a0 :: st)) rfl (by rw [hml]; exact hL.1) (rest := st) rfl (by rw [hb]; exact hd) (by show 1 ≤ C.2.2.1 + 8; omega) (by show 2 * 0 + _ + _ ≤ 64 * C.2.2.1 + 200; have hw9 : nativeFrameWords "java/lang/System" "arraycopy" 5 ≤ 100 := (by decide); omega)
  have e1 : copied (vp_cell (C.2.1.2.1 1) (N0, .inr (.inl f))) (vp_cell (C.2.1.2.1 1) (N1, .inr (.inl g))) 0 0 (nI N) = vp_cell (C.2.1.2.1 1) (N1, .inr (.inl (fun j => if j < N then f j else g j))) := by
    refine (va_copied (fun z => .long z) (C.2.1.2.1 1) (C.2.1.2.1 1) f g (by rw [hz2, hcl9]; omega)).trans ?_
    rw [vp_cell_l, hz2, hcl9]
    congr 1
    funext j
    simp only [va_cpy]
    by_cases hj : j < N
    · rw [if_pos ⟨Nat.zero_le _, by omega⟩, if_pos hj]; congr 2; omega
    · rw [if_neg (by omega), if_neg hj]
  rw [e1] at X' step
  have hl : a < H.size := (Array.getElem?_eq_some_iff.mp hc1).1
  generalize hcell : vp_cell (C.2.1.2.1 1) (N1, .inr (.inl (fun j => if j < N then f j else g j))) = cell at X' step
  have hheap : ((T.setVm vm').setCell a cell).heap = H.setIfInBounds a cell := by rw [← hT]; rfl
  have oq : ∀ q : Nat, q ≠ a → (H.setIfInBounds a cell)[q]? = H[q]? := fun q hq => by simp [Array.getElem?_setIfInBounds, Ne.symm hq]
  have hA : xA C.2.2.2.2.2.1 a := hS.2.2.2 a (Or.inl (by rw [h1]; rfl))
  obtain ⟨t, a1, b1⟩ := kk (H.setIfInBounds a cell) _ ls hL (xRep_up hR (show (H.setIfInBounds a cell)[a]? = some _ by rw [← hcell]; simp [Array.getElem?_setIfInBounds, hl]) (by simp) oq)
    ⟨by simp; exact hS.1, fun q g1 g2 => by
      rw [oq q (fun e => g2 (by rw [e]; exact hA))]
      exact hS.2.1 q g1 g2, fun q hq => by
      rcases List.mem_append.mp hq with h9 | h9
      · exact hS.2.2.1 q h9
      · obtain ⟨z, -, hz9⟩ := List.mem_map.mp h9
        rw [← hz9]
        exact hA, fun q hq => hS.2.2.2 q ((xA_up h1 q).mp hq)⟩ _ hheap X'
  exact ⟨t, step t a1, b1⟩
end XMORE
