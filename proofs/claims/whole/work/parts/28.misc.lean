theorem oi_PW_3 : Cond.methodLink "PairedWords" 3 Lib.objectInit ∈ xTAB := xin (List.mem_of_getElem? (i := 25) (by decide +kernel)) rfl
theorem oi_Pairs_3 : Cond.methodLink "PairedWords$Pairs" 3 Lib.objectInit ∈ xTAB := xin (List.mem_of_getElem? (i := 33) (by decide +kernel)) rfl
theorem oi_Rule_3 : Cond.methodLink "PairedWords$Rules" 3 Lib.objectInit ∈ xTAB := xin (List.mem_of_getElem? (i := 50) (by decide +kernel)) rfl
theorem oi_Patt_5 : Cond.methodLink "PairedWords$Patterns" 5 Lib.objectInit ∈ xTAB := xin (List.mem_of_getElem? (i := 56) (by decide +kernel)) rfl
theorem oi_Lexi_3 : Cond.methodLink "PairedWords$Lexicon" 3 Lib.objectInit ∈ xTAB := xin (List.mem_of_getElem? (i := 113) (by decide +kernel)) rfl
theorem oi_Line_3 : Cond.methodLink "PairedWords$Line" 3 Lib.objectInit ∈ xTAB := xin (List.mem_of_getElem? (i := 120) (by decide +kernel)) rfl
theorem oi_Samp_3 : Cond.methodLink "PairedWords$Samples" 3 Lib.objectInit ∈ xTAB := xin (List.mem_of_getElem? (i := 154) (by decide +kernel)) rfl
theorem oi_Resu_3 : Cond.methodLink "PairedWords$Results" 3 Lib.objectInit ∈ xTAB := xin (List.mem_of_getElem? (i := 172) (by decide +kernel)) rfl
theorem oi_Sear_3 : Cond.methodLink "PairedWords$Search" 3 Lib.objectInit ∈ xTAB := xin (List.mem_of_getElem? (i := 192) (by decide +kernel)) rfl
theorem oi_Mod_1 : Cond.methodLink "PairedWordsModel" 1 Lib.objectInit ∈ xTAB := xin (List.mem_of_getElem? (i := 823) (by decide +kernel)) rfl
theorem oi_1 : Cond.instanceMethod Lib.objectInit ∈ xTAB := xin (List.mem_of_getElem? (i := 26) (by decide +kernel)) rfl
theorem oi_2 : Cond.code Lib.objectInit ⟨#[0xb1]⟩ 1 none ∈ xTAB := xin (List.mem_of_getElem? (i := 27) (by decide +kernel)) rfl
theorem aw_int : Cond.arrayClass .int ∈ xTAB := xin (List.mem_of_getElem? (i := 44) (by decide +kernel)) rfl
theorem aw_long : Cond.arrayClass .long ∈ xTAB := xin (List.mem_of_getElem? (i := 183) (by decide +kernel)) rfl
theorem aw_boolean : Cond.arrayClass .boolean ∈ xTAB := xin (List.mem_of_getElem? (i := 951) (by decide +kernel)) rfl
theorem aw_Line : Cond.arrayOver (.object "PairedWords$Line") ∈ xTAB := xin (List.mem_of_getElem? (i := 115) (by decide +kernel)) rfl
theorem cl_Law_8 : Cond.classLink "PairedWordsLaw" 8 "PairedWords" ∈ xTAB := xin (List.mem_of_getElem? (i := 20) (by decide +kernel)) rfl
theorem cl_PW_9 : Cond.classLink "PairedWords" 9 "PairedWords$Pairs" ∈ xTAB := xin (List.mem_of_getElem? (i := 28) (by decide +kernel)) rfl
theorem cl_PW_16 : Cond.classLink "PairedWords" 16 "PairedWords$Rules" ∈ xTAB := xin (List.mem_of_getElem? (i := 45) (by decide +kernel)) rfl
theorem cl_Rule_9 : Cond.classLink "PairedWords$Rules" 9 "PairedWords$Patterns" ∈ xTAB := xin (List.mem_of_getElem? (i := 51) (by decide +kernel)) rfl
theorem cl_PW_23 : Cond.classLink "PairedWords" 23 "PairedWords$Lexicon" ∈ xTAB := xin (List.mem_of_getElem? (i := 108) (by decide +kernel)) rfl
theorem cl_Lexi_18 : Cond.classLink "PairedWords$Lexicon" 18 "PairedWords$Line" ∈ xTAB := xin (List.mem_of_getElem? (i := 114) (by decide +kernel)) rfl
theorem cl_PW_30 : Cond.classLink "PairedWords" 30 "PairedWords$Line" ∈ xTAB := xin (List.mem_of_getElem? (i := 147) (by decide +kernel)) rfl
theorem cl_PW_42 : Cond.classLink "PairedWords" 42 "PairedWords$Samples" ∈ xTAB := xin (List.mem_of_getElem? (i := 149) (by decide +kernel)) rfl
theorem cl_Samp_9 : Cond.classLink "PairedWords$Samples" 9 "PairedWords$Line" ∈ xTAB := xin (List.mem_of_getElem? (i := 155) (by decide +kernel)) rfl
theorem cl_PW_49 : Cond.classLink "PairedWords" 49 "PairedWords$Results" ∈ xTAB := xin (List.mem_of_getElem? (i := 167) (by decide +kernel)) rfl
theorem cl_PW_59 : Cond.classLink "PairedWords" 59 "PairedWords$Comparison" ∈ xTAB := xin (List.mem_of_getElem? (i := 184) (by decide +kernel)) rfl
theorem cl_Sear_9 : Cond.classLink "PairedWords$Search" 9 "PairedWords$Line" ∈ xTAB := xin (List.mem_of_getElem? (i := 193) (by decide +kernel)) rfl
theorem cl_Comp_9 : Cond.classLink "PairedWords$Comparison" 9 "PairedWords$Line" ∈ xTAB := xin (List.mem_of_getElem? (i := 195) (by decide +kernel)) rfl
theorem cl_PW_68 : Cond.classLink "PairedWords" 68 "PairedWords$Writing" ∈ xTAB := xin (List.mem_of_getElem? (i := 225) (by decide +kernel)) rfl
theorem cl_Writ_9 : Cond.classLink "PairedWords$Writing" 9 "PairedWords$Line" ∈ xTAB := xin (List.mem_of_getElem? (i := 231) (by decide +kernel)) rfl
theorem cl_Law_13 : Cond.classLink "PairedWordsLaw" 13 "java/lang/IllegalArgumentException" ∈ xTAB := xin (List.mem_of_getElem? (i := 461) (by decide +kernel)) rfl
theorem cl_Law_15 : Cond.classLink "PairedWordsLaw" 15 "java/lang/IllegalStateException" ∈ xTAB := xin (List.mem_of_getElem? (i := 462) (by decide +kernel)) rfl
theorem cl_PW_81 : Cond.classLink "PairedWords" 81 "java/lang/IllegalArgumentException" ∈ xTAB := xin (List.mem_of_getElem? (i := 473) (by decide +kernel)) rfl
theorem cl_PW_97 : Cond.classLink "PairedWords" 97 "java/lang/IllegalStateException" ∈ xTAB := xin (List.mem_of_getElem? (i := 550) (by decide +kernel)) rfl
theorem cl_Law_49 : Cond.classLink "PairedWordsLaw" 49 "java/lang/IndexOutOfBoundsException" ∈ xTAB := xin (List.mem_of_getElem? (i := 755) (by decide +kernel)) rfl
theorem cl_PW_219 : Cond.classLink "PairedWords" 219 "java/lang/IndexOutOfBoundsException" ∈ xTAB := xin (List.mem_of_getElem? (i := 760) (by decide +kernel)) rfl
theorem cl_Law_59 : Cond.classLink "PairedWordsLaw" 59 "PairedWordsModel" ∈ xTAB := xin (List.mem_of_getElem? (i := 818) (by decide +kernel)) rfl
theorem ca_IllegalArgumentException : Cond.castable "java/lang/IllegalArgumentException" "java/lang/IllegalArgumentException" ∈ xTAB := xin (List.mem_of_getElem? (i := 475) (by decide +kernel)) rfl
theorem ca_IllegalStateException : Cond.castable "java/lang/IllegalStateException" "java/lang/IllegalStateException" ∈ xTAB := xin (List.mem_of_getElem? (i := 552) (by decide +kernel)) rfl
theorem ca_IndexOutOfBoundsException : Cond.castable "java/lang/IndexOutOfBoundsException" "java/lang/IndexOutOfBoundsException" ∈ xTAB := xin (List.mem_of_getElem? (i := 762) (by decide +kernel)) rfl
