/-! The words of the throws. -/
abbrev xnm : List String := ["java/lang/RuntimeException", "java/lang/Exception"]
theorem xown_of {ws : List Cond} (h : ws.all (fun w => xhw w || (decide (w ∈ tables_1) && xwk w)) = true) : ∀ w ∈ ws, w ∈ xTAB ∨ xhw w = true := by
  intro w hw
  have h1 := List.all_eq_true.mp h w hw
  rw [Bool.or_eq_true] at h1
  rcases h1 with h1 | h1
  · exact Or.inr h1
  · rw [Bool.and_eq_true, decide_eq_true_eq] at h1
    exact Or.inl (xin h1.1 h1.2)
theorem ow_A : ∀ w ∈ Bundle.ownAtoms "PairedWords" 85 "java/lang/IllegalArgumentException" xnm, w ∈ xTAB ∨ xhw w = true := xown_of (by decide +kernel)
theorem oy_A : Cond.initialized "java/lang/IllegalArgumentException" ∈ xTAB := xin (List.mem_of_getElem? (i := 16) (by decide +kernel)) rfl
theorem oz_A : Cond.instantiable "java/lang/IllegalArgumentException" 6 ∈ xTAB := xin (List.mem_of_getElem? (i := 474) (by decide +kernel)) rfl
theorem ow_S : ∀ w ∈ Bundle.ownAtoms "PairedWords" 101 "java/lang/IllegalStateException" xnm, w ∈ xTAB ∨ xhw w = true := xown_of (by decide +kernel)
theorem oy_S : Cond.initialized "java/lang/IllegalStateException" ∈ xTAB := xin (List.mem_of_getElem? (i := 17) (by decide +kernel)) rfl
theorem oz_S : Cond.instantiable "java/lang/IllegalStateException" 6 ∈ xTAB := xin (List.mem_of_getElem? (i := 551) (by decide +kernel)) rfl
theorem ow_I : ∀ w ∈ Bundle.ownAtoms "PairedWords" 223 "java/lang/IndexOutOfBoundsException" xnm, w ∈ xTAB ∨ xhw w = true := xown_of (by decide +kernel)
theorem oy_I : Cond.initialized "java/lang/IndexOutOfBoundsException" ∈ xTAB := xin (List.mem_of_getElem? (i := 19) (by decide +kernel)) rfl
theorem oz_I : Cond.instantiable "java/lang/IndexOutOfBoundsException" 6 ∈ xTAB := xin (List.mem_of_getElem? (i := 761) (by decide +kernel)) rfl
theorem ox_83 : xOwn "PairedWords" 81 83 85 "java/lang/IllegalArgumentException" "no such sign" xnm := ⟨ow_A, cl_PW_81, oy_A, oz_A, List.mem_of_getElem? (i := 0) rfl, by decide, by decide, by decide⟩
theorem ox_92 : xOwn "PairedWords" 81 92 85 "java/lang/IllegalArgumentException" "both empty, or there already" xnm := ⟨ow_A, cl_PW_81, oy_A, oz_A, List.mem_of_getElem? (i := 1) rfl, by decide, by decide, by decide⟩
theorem ox_99 : xOwn "PairedWords" 97 99 101 "java/lang/IllegalStateException" "as many pairs as may be" xnm := ⟨ow_S, cl_PW_97, oy_S, oz_S, List.mem_of_getElem? (i := 2) rfl, by decide, by decide, by decide⟩
theorem ox_117 : xOwn "PairedWords" 81 117 85 "java/lang/IllegalArgumentException" "no such kind or pair" xnm := ⟨ow_A, cl_PW_81, oy_A, oz_A, List.mem_of_getElem? (i := 3) rfl, by decide, by decide, by decide⟩
theorem ox_120 : xOwn "PairedWords" 97 120 101 "java/lang/IllegalStateException" "as many rules as may be" xnm := ⟨ow_S, cl_PW_97, oy_S, oz_S, List.mem_of_getElem? (i := 4) rfl, by decide, by decide, by decide⟩
theorem ox_123 : xOwn "PairedWords" 81 123 85 "java/lang/IllegalArgumentException" "no such rule" xnm := ⟨ow_A, cl_PW_81, oy_A, oz_A, List.mem_of_getElem? (i := 5) rfl, by decide, by decide, by decide⟩
theorem ox_129 : xOwn "PairedWords" 97 129 101 "java/lang/IllegalStateException" "as many contexts as may be" xnm := ⟨ow_S, cl_PW_97, oy_S, oz_S, List.mem_of_getElem? (i := 6) rfl, by decide, by decide, by decide⟩
theorem ox_135 : xOwn "PairedWords" 81 135 85 "java/lang/IllegalArgumentException" "no such set of pairs" xnm := ⟨ow_A, cl_PW_81, oy_A, oz_A, List.mem_of_getElem? (i := 7) rfl, by decide, by decide, by decide⟩
theorem ox_137 : xOwn "PairedWords" 97 137 101 "java/lang/IllegalStateException" "no context" xnm := ⟨ow_S, cl_PW_97, oy_S, oz_S, List.mem_of_getElem? (i := 8) rfl, by decide, by decide, by decide⟩
theorem ox_154 : xOwn "PairedWords" 97 154 101 "java/lang/IllegalStateException" "as many elements as may be" xnm := ⟨ow_S, cl_PW_97, oy_S, oz_S, List.mem_of_getElem? (i := 9) rfl, by decide, by decide, by decide⟩
theorem ox_163 : xOwn "PairedWords" 81 163 85 "java/lang/IllegalArgumentException" "no such part" xnm := ⟨ow_A, cl_PW_81, oy_A, oz_A, List.mem_of_getElem? (i := 10) rfl, by decide, by decide, by decide⟩
theorem ox_166 : xOwn "PairedWords" 97 166 101 "java/lang/IllegalStateException" "as many entries as may be" xnm := ⟨ow_S, cl_PW_97, oy_S, oz_S, List.mem_of_getElem? (i := 11) rfl, by decide, by decide, by decide⟩
theorem ox_172 : xOwn "PairedWords" 81 172 85 "java/lang/IllegalArgumentException" "no such entry or sign" xnm := ⟨ow_A, cl_PW_81, oy_A, oz_A, List.mem_of_getElem? (i := 12) rfl, by decide, by decide, by decide⟩
theorem ox_182 : xOwn "PairedWords" 97 182 101 "java/lang/IllegalStateException" "as many signs as may be" xnm := ⟨ow_S, cl_PW_97, oy_S, oz_S, List.mem_of_getElem? (i := 13) rfl, by decide, by decide, by decide⟩
theorem ox_186 : xOwn "PairedWords" 97 186 101 "java/lang/IllegalStateException" "the line is full" xnm := ⟨ow_S, cl_PW_97, oy_S, oz_S, List.mem_of_getElem? (i := 14) rfl, by decide, by decide, by decide⟩
theorem ox_208 : xOwn "PairedWords" 97 208 101 "java/lang/IllegalStateException" "too many results" xnm := ⟨ow_S, cl_PW_97, oy_S, oz_S, List.mem_of_getElem? (i := 15) rfl, by decide, by decide, by decide⟩
theorem ox_221 : xOwn "PairedWords" 219 221 223 "java/lang/IndexOutOfBoundsException" "no such result" xnm := ⟨ow_I, cl_PW_219, oy_I, oz_I, List.mem_of_getElem? (i := 16) rfl, by decide, by decide, by decide⟩
theorem ox_229 : xOwn "PairedWords" 219 229 223 "java/lang/IndexOutOfBoundsException" "no such sign or entry" xnm := ⟨ow_I, cl_PW_219, oy_I, oz_I, List.mem_of_getElem? (i := 17) rfl, by decide, by decide, by decide⟩
theorem ox_238 : xOwn "PairedWords" 97 238 101 "java/lang/IllegalStateException" "as many samples as may be" xnm := ⟨ow_S, cl_PW_97, oy_S, oz_S, List.mem_of_getElem? (i := 18) rfl, by decide, by decide, by decide⟩
