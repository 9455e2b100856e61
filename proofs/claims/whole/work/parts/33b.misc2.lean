theorem kl_Resu_43 : Cond.constantLong "PairedWords$Results" 43 7 ∈ xTAB := xin (List.mem_of_getElem? (i := 784) (by decide +kernel)) rfl
theorem ac_l : Cond.methodLink "PairedWords$Results" 23 arraycopyName ∈ xTAB := xin (List.mem_of_getElem? (i := 718) (by decide +kernel)) rfl
theorem ac_n : Cond.native arraycopyName ∈ xTAB := xin (List.mem_of_getElem? (i := 720) (by decide +kernel)) rfl
theorem ac_s : Cond.static arraycopyName ∈ xTAB := xin (List.mem_of_getElem? (i := 719) (by decide +kernel)) rfl
theorem ac_i : Cond.initialized "java/lang/System" ∈ xTAB := xin (List.mem_of_getElem? (i := 18) (by decide +kernel)) rfl
theorem ne_Writ : (Cond.fieldLink "PairedWords$Writing" (34 : Nat) "PairedWords$Writing" "NO_ENTRIES" "[I") ∈ xTAB := xin (List.mem_of_getElem? (i := 376) (by decide +kernel)) rfl
