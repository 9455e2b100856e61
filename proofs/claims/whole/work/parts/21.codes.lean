theorem cd_PW_init : xCode mPW_init := ⟨Or.inr ⟨rfl, xin (List.mem_of_getElem? (i := 24) (by decide +kernel)) rfl⟩, xin (List.mem_of_getElem? (i := 1) (by decide +kernel)) rfl, by decide⟩
theorem ar_PW_init : xAr mPW_init 0 := by unfold xAr; decide +kernel
theorem cd_PW_pair : xCode mPW_pair := ⟨Or.inr ⟨rfl, xin (List.mem_of_getElem? (i := 466) (by decide +kernel)) rfl⟩, xin (List.mem_of_getElem? (i := 1) (by decide +kernel)) rfl, by decide⟩
theorem ar_PW_pair : xAr mPW_pair 2 := by unfold xAr; decide +kernel
theorem cd_PW_rule : xCode mPW_rule := ⟨Or.inr ⟨rfl, xin (List.mem_of_getElem? (i := 592) (by decide +kernel)) rfl⟩, xin (List.mem_of_getElem? (i := 1) (by decide +kernel)) rfl, by decide⟩
theorem ar_PW_rule : xAr mPW_rule 2 := by unfold xAr; decide +kernel
theorem cd_PW_context : xCode mPW_context := ⟨Or.inr ⟨rfl, xin (List.mem_of_getElem? (i := 610) (by decide +kernel)) rfl⟩, xin (List.mem_of_getElem? (i := 1) (by decide +kernel)) rfl, by decide⟩
theorem ar_PW_context : xAr mPW_context 3 := by unfold xAr; decide +kernel
theorem cd_PW_element : xCode mPW_element := ⟨Or.inr ⟨rfl, xin (List.mem_of_getElem? (i := 639) (by decide +kernel)) rfl⟩, xin (List.mem_of_getElem? (i := 1) (by decide +kernel)) rfl, by decide⟩
theorem ar_PW_element : xAr mPW_element 4 := by unfold xAr; decide +kernel
theorem cd_PW_entry : xCode mPW_entry := ⟨Or.inr ⟨rfl, xin (List.mem_of_getElem? (i := 665) (by decide +kernel)) rfl⟩, xin (List.mem_of_getElem? (i := 1) (by decide +kernel)) rfl, by decide⟩
theorem ar_PW_entry : xAr mPW_entry 2 := by unfold xAr; decide +kernel
theorem cd_PW_spell : xCode mPW_spell := ⟨Or.inr ⟨rfl, xin (List.mem_of_getElem? (i := 685) (by decide +kernel)) rfl⟩, xin (List.mem_of_getElem? (i := 1) (by decide +kernel)) rfl, by decide⟩
theorem ar_PW_spell : xAr mPW_spell 2 := by unfold xAr; decide +kernel
theorem cd_PW_type : xCode mPW_type := ⟨Or.inr ⟨rfl, xin (List.mem_of_getElem? (i := 700) (by decide +kernel)) rfl⟩, xin (List.mem_of_getElem? (i := 1) (by decide +kernel)) rfl, by decide⟩
theorem ar_PW_type : xAr mPW_type 2 := by unfold xAr; decide +kernel
theorem cd_PW_wipe : xCode mPW_wipe := ⟨Or.inr ⟨rfl, xin (List.mem_of_getElem? (i := 279) (by decide +kernel)) rfl⟩, xin (List.mem_of_getElem? (i := 1) (by decide +kernel)) rfl, by decide⟩
theorem ar_PW_wipe : xAr mPW_wipe 1 := by unfold xAr; decide +kernel
theorem cd_PW_belong : xCode mPW_belong := ⟨Or.inr ⟨rfl, xin (List.mem_of_getElem? (i := 291) (by decide +kernel)) rfl⟩, xin (List.mem_of_getElem? (i := 1) (by decide +kernel)) rfl, by decide⟩
theorem ar_PW_belong : xAr mPW_belong 0 := by unfold xAr; decide +kernel
theorem cd_PW_blame : xCode mPW_blame := ⟨Or.inr ⟨rfl, xin (List.mem_of_getElem? (i := 437) (by decide +kernel)) rfl⟩, xin (List.mem_of_getElem? (i := 1) (by decide +kernel)) rfl, by decide⟩
theorem ar_PW_blame : xAr mPW_blame 0 := by unfold xAr; decide +kernel
theorem cd_PW_write : xCode mPW_write := ⟨Or.inr ⟨rfl, xin (List.mem_of_getElem? (i := 708) (by decide +kernel)) rfl⟩, xin (List.mem_of_getElem? (i := 1) (by decide +kernel)) rfl, by decide⟩
theorem ar_PW_write : xAr mPW_write 0 := by unfold xAr; decide +kernel
theorem cd_PW_analyse : xCode mPW_analyse := ⟨Or.inr ⟨rfl, xin (List.mem_of_getElem? (i := 731) (by decide +kernel)) rfl⟩, xin (List.mem_of_getElem? (i := 1) (by decide +kernel)) rfl, by decide⟩
theorem ar_PW_analyse : xAr mPW_analyse 0 := by unfold xAr; decide +kernel
theorem cd_PW_length : xCode mPW_length := ⟨Or.inr ⟨rfl, xin (List.mem_of_getElem? (i := 759) (by decide +kernel)) rfl⟩, xin (List.mem_of_getElem? (i := 1) (by decide +kernel)) rfl, by decide⟩
theorem ar_PW_length : xAr mPW_length 2 := by unfold xAr; decide +kernel
theorem cd_PW_result : xCode mPW_result := ⟨Or.inr ⟨rfl, xin (List.mem_of_getElem? (i := 795) (by decide +kernel)) rfl⟩, xin (List.mem_of_getElem? (i := 1) (by decide +kernel)) rfl, by decide⟩
theorem ar_PW_result : xAr mPW_result 3 := by unfold xAr; decide +kernel
theorem cd_PW_sample : xCode mPW_sample := ⟨Or.inr ⟨rfl, xin (List.mem_of_getElem? (i := 811) (by decide +kernel)) rfl⟩, xin (List.mem_of_getElem? (i := 1) (by decide +kernel)) rfl, by decide⟩
theorem ar_PW_sample : xAr mPW_sample 0 := by unfold xAr; decide +kernel
theorem cd_PW_check : xCode mPW_check := ⟨Or.inr ⟨rfl, xin (List.mem_of_getElem? (i := 445) (by decide +kernel)) rfl⟩, xin (List.mem_of_getElem? (i := 1) (by decide +kernel)) rfl, by decide⟩
theorem ar_PW_check : xAr mPW_check 0 := by unfold xAr; decide +kernel
theorem cd_PW_isSign : xCode mPW_isSign := ⟨Or.inr ⟨rfl, xin (List.mem_of_getElem? (i := 472) (by decide +kernel)) rfl⟩, xin (List.mem_of_getElem? (i := 1) (by decide +kernel)) rfl, by decide⟩
theorem ar_PW_isSign : xAr mPW_isSign 1 := by unfold xAr; decide +kernel
theorem cd_PW_isSignOrEmpty : xCode mPW_isSignOrEmpty := ⟨Or.inr ⟨rfl, xin (List.mem_of_getElem? (i := 469) (by decide +kernel)) rfl⟩, xin (List.mem_of_getElem? (i := 1) (by decide +kernel)) rfl, by decide⟩
theorem ar_PW_isSignOrEmpty : xAr mPW_isSignOrEmpty 1 := by unfold xAr; decide +kernel
theorem cd_PW_isPart : xCode mPW_isPart := ⟨Or.inr ⟨rfl, xin (List.mem_of_getElem? (i := 668) (by decide +kernel)) rfl⟩, xin (List.mem_of_getElem? (i := 1) (by decide +kernel)) rfl, by decide⟩
theorem ar_PW_isPart : xAr mPW_isPart 1 := by unfold xAr; decide +kernel
theorem cd_Mod_init : xCode mMod_init := ⟨Or.inr ⟨rfl, xin (List.mem_of_getElem? (i := 822) (by decide +kernel)) rfl⟩, xin (List.mem_of_getElem? (i := 12) (by decide +kernel)) rfl, by decide⟩
theorem ar_Mod_init : xAr mMod_init 0 := by unfold xAr; decide +kernel
theorem cd_Mod_thrown : xCode mMod_thrown := ⟨Or.inr ⟨rfl, xin (List.mem_of_getElem? (i := 955) (by decide +kernel)) rfl⟩, xin (List.mem_of_getElem? (i := 12) (by decide +kernel)) rfl, by decide⟩
theorem ar_Mod_thrown : xAr mMod_thrown 0 := by unfold xAr; decide +kernel
theorem cd_Mod_noSign : xCode mMod_noSign := ⟨Or.inr ⟨rfl, xin (List.mem_of_getElem? (i := 963) (by decide +kernel)) rfl⟩, xin (List.mem_of_getElem? (i := 12) (by decide +kernel)) rfl, by decide⟩
theorem ar_Mod_noSign : xAr mMod_noSign 2 := by unfold xAr; decide +kernel
theorem cd_Mod_pair : xCode mMod_pair := ⟨Or.inr ⟨rfl, xin (List.mem_of_getElem? (i := 959) (by decide +kernel)) rfl⟩, xin (List.mem_of_getElem? (i := 12) (by decide +kernel)) rfl, by decide⟩
theorem ar_Mod_pair : xAr mMod_pair 2 := by unfold xAr; decide +kernel
theorem cd_Mod_rule : xCode mMod_rule := ⟨Or.inr ⟨rfl, xin (List.mem_of_getElem? (i := 967) (by decide +kernel)) rfl⟩, xin (List.mem_of_getElem? (i := 12) (by decide +kernel)) rfl, by decide⟩
theorem ar_Mod_rule : xAr mMod_rule 2 := by unfold xAr; decide +kernel
theorem cd_Mod_noRule : xCode mMod_noRule := ⟨Or.inr ⟨rfl, xin (List.mem_of_getElem? (i := 975) (by decide +kernel)) rfl⟩, xin (List.mem_of_getElem? (i := 12) (by decide +kernel)) rfl, by decide⟩
theorem ar_Mod_noRule : xAr mMod_noRule 1 := by unfold xAr; decide +kernel
theorem cd_Mod_context : xCode mMod_context := ⟨Or.inr ⟨rfl, xin (List.mem_of_getElem? (i := 971) (by decide +kernel)) rfl⟩, xin (List.mem_of_getElem? (i := 12) (by decide +kernel)) rfl, by decide⟩
theorem ar_Mod_context : xAr mMod_context 3 := by unfold xAr; decide +kernel
theorem cd_Mod_element : xCode mMod_element := ⟨Or.inr ⟨rfl, xin (List.mem_of_getElem? (i := 979) (by decide +kernel)) rfl⟩, xin (List.mem_of_getElem? (i := 12) (by decide +kernel)) rfl, by decide⟩
theorem ar_Mod_element : xAr mMod_element 4 := by unfold xAr; decide +kernel
theorem cd_Mod_entry : xCode mMod_entry := ⟨Or.inr ⟨rfl, xin (List.mem_of_getElem? (i := 983) (by decide +kernel)) rfl⟩, xin (List.mem_of_getElem? (i := 12) (by decide +kernel)) rfl, by decide⟩
theorem ar_Mod_entry : xAr mMod_entry 2 := by unfold xAr; decide +kernel
theorem cd_Mod_spell : xCode mMod_spell := ⟨Or.inr ⟨rfl, xin (List.mem_of_getElem? (i := 987) (by decide +kernel)) rfl⟩, xin (List.mem_of_getElem? (i := 12) (by decide +kernel)) rfl, by decide⟩
theorem ar_Mod_spell : xAr mMod_spell 2 := by unfold xAr; decide +kernel
theorem cd_Mod_type : xCode mMod_type := ⟨Or.inr ⟨rfl, xin (List.mem_of_getElem? (i := 991) (by decide +kernel)) rfl⟩, xin (List.mem_of_getElem? (i := 12) (by decide +kernel)) rfl, by decide⟩
theorem ar_Mod_type : xAr mMod_type 2 := by unfold xAr; decide +kernel
theorem cd_Mod_wipe : xCode mMod_wipe := ⟨Or.inr ⟨rfl, xin (List.mem_of_getElem? (i := 995) (by decide +kernel)) rfl⟩, xin (List.mem_of_getElem? (i := 12) (by decide +kernel)) rfl, by decide⟩
theorem ar_Mod_wipe : xAr mMod_wipe 1 := by unfold xAr; decide +kernel
theorem cd_Mod_inSet : xCode mMod_inSet := ⟨Or.inr ⟨rfl, xin (List.mem_of_getElem? (i := 1047) (by decide +kernel)) rfl⟩, xin (List.mem_of_getElem? (i := 12) (by decide +kernel)) rfl, by decide⟩
theorem ar_Mod_inSet : xAr mMod_inSet 2 := by unfold xAr; decide +kernel
theorem cd_Mod_allIn : xCode mMod_allIn := ⟨Or.inr ⟨rfl, xin (List.mem_of_getElem? (i := 1043) (by decide +kernel)) rfl⟩, xin (List.mem_of_getElem? (i := 12) (by decide +kernel)) rfl, by decide⟩
theorem ar_Mod_allIn : xAr mMod_allIn 3 := by unfold xAr; decide +kernel
theorem cd_Mod_isPart : xCode mMod_isPart := ⟨Or.inr ⟨rfl, xin (List.mem_of_getElem? (i := 1039) (by decide +kernel)) rfl⟩, xin (List.mem_of_getElem? (i := 12) (by decide +kernel)) rfl, by decide⟩
theorem ar_Mod_isPart : xAr mMod_isPart 3 := by unfold xAr; decide +kernel
theorem cd_Mod_isMatched : xCode mMod_isMatched := ⟨Or.inr ⟨rfl, xin (List.mem_of_getElem? (i := 1035) (by decide +kernel)) rfl⟩, xin (List.mem_of_getElem? (i := 12) (by decide +kernel)) rfl, by decide⟩
theorem ar_Mod_isMatched : xAr mMod_isMatched 3 := by unfold xAr; decide +kernel
theorem cd_Mod_holds : xCode mMod_holds := ⟨Or.inr ⟨rfl, xin (List.mem_of_getElem? (i := 1031) (by decide +kernel)) rfl⟩, xin (List.mem_of_getElem? (i := 12) (by decide +kernel)) rfl, by decide⟩
theorem ar_Mod_holds : xAr mMod_holds 2 := by unfold xAr; decide +kernel
theorem cd_Mod_isKept : xCode mMod_isKept := ⟨Or.inr ⟨rfl, xin (List.mem_of_getElem? (i := 1027) (by decide +kernel)) rfl⟩, xin (List.mem_of_getElem? (i := 12) (by decide +kernel)) rfl, by decide⟩
theorem ar_Mod_isKept : xAr mMod_isKept 1 := by unfold xAr; decide +kernel
theorem cd_Mod_keepsAll : xCode mMod_keepsAll := ⟨Or.inr ⟨rfl, xin (List.mem_of_getElem? (i := 1023) (by decide +kernel)) rfl⟩, xin (List.mem_of_getElem? (i := 12) (by decide +kernel)) rfl, by decide⟩
theorem ar_Mod_keepsAll : xAr mMod_keepsAll 0 := by unfold xAr; decide +kernel
theorem cd_Mod_begin : xCode mMod_begin := ⟨Or.inr ⟨rfl, xin (List.mem_of_getElem? (i := 1011) (by decide +kernel)) rfl⟩, xin (List.mem_of_getElem? (i := 12) (by decide +kernel)) rfl, by decide⟩
theorem ar_Mod_begin : xAr mMod_begin 0 := by unfold xAr; decide +kernel
theorem cd_Mod_mayCome : xCode mMod_mayCome := ⟨Or.inr ⟨rfl, xin (List.mem_of_getElem? (i := 1019) (by decide +kernel)) rfl⟩, xin (List.mem_of_getElem? (i := 12) (by decide +kernel)) rfl, by decide⟩
theorem ar_Mod_mayCome : xAr mMod_mayCome 2 := by unfold xAr; decide +kernel
theorem cd_Mod_nextAlignment : xCode mMod_nextAlignment := ⟨Or.inr ⟨rfl, xin (List.mem_of_getElem? (i := 1015) (by decide +kernel)) rfl⟩, xin (List.mem_of_getElem? (i := 12) (by decide +kernel)) rfl, by decide⟩
theorem ar_Mod_nextAlignment : xAr mMod_nextAlignment 1 := by unfold xAr; decide +kernel
theorem cd_Mod_take : xCode mMod_take := ⟨Or.inr ⟨rfl, xin (List.mem_of_getElem? (i := 1003) (by decide +kernel)) rfl⟩, xin (List.mem_of_getElem? (i := 12) (by decide +kernel)) rfl, by decide⟩
theorem ar_Mod_take : xAr mMod_take 5 := by unfold xAr; decide +kernel
theorem cd_Mod_doBelong : xCode mMod_doBelong := ⟨Or.inr ⟨rfl, xin (List.mem_of_getElem? (i := 1007) (by decide +kernel)) rfl⟩, xin (List.mem_of_getElem? (i := 12) (by decide +kernel)) rfl, by decide⟩
theorem ar_Mod_doBelong : xAr mMod_doBelong 0 := by unfold xAr; decide +kernel
theorem cd_Mod_belong : xCode mMod_belong := ⟨Or.inr ⟨rfl, xin (List.mem_of_getElem? (i := 999) (by decide +kernel)) rfl⟩, xin (List.mem_of_getElem? (i := 12) (by decide +kernel)) rfl, by decide⟩
theorem ar_Mod_belong : xAr mMod_belong 0 := by unfold xAr; decide +kernel
theorem cd_Mod_blame : xCode mMod_blame := ⟨Or.inr ⟨rfl, xin (List.mem_of_getElem? (i := 1051) (by decide +kernel)) rfl⟩, xin (List.mem_of_getElem? (i := 12) (by decide +kernel)) rfl, by decide⟩
theorem ar_Mod_blame : xAr mMod_blame 0 := by unfold xAr; decide +kernel
theorem cd_Mod_order : xCode mMod_order := ⟨Or.inr ⟨rfl, xin (List.mem_of_getElem? (i := 1063) (by decide +kernel)) rfl⟩, xin (List.mem_of_getElem? (i := 12) (by decide +kernel)) rfl, by decide⟩
theorem ar_Mod_order : xAr mMod_order 2 := by unfold xAr; decide +kernel
theorem cd_Mod_put : xCode mMod_put := ⟨Or.inr ⟨rfl, xin (List.mem_of_getElem? (i := 1059) (by decide +kernel)) rfl⟩, xin (List.mem_of_getElem? (i := 12) (by decide +kernel)) rfl, by decide⟩
theorem ar_Mod_put : xAr mMod_put 0 := by unfold xAr; decide +kernel
theorem cd_Mod_finish : xCode mMod_finish := ⟨Or.inr ⟨rfl, xin (List.mem_of_getElem? (i := 1067) (by decide +kernel)) rfl⟩, xin (List.mem_of_getElem? (i := 12) (by decide +kernel)) rfl, by decide⟩
theorem ar_Mod_finish : xAr mMod_finish 0 := by unfold xAr; decide +kernel
theorem cd_Mod_write : xCode mMod_write := ⟨Or.inr ⟨rfl, xin (List.mem_of_getElem? (i := 1055) (by decide +kernel)) rfl⟩, xin (List.mem_of_getElem? (i := 12) (by decide +kernel)) rfl, by decide⟩
theorem ar_Mod_write : xAr mMod_write 0 := by unfold xAr; decide +kernel
theorem cd_Mod_isFound : xCode mMod_isFound := ⟨Or.inr ⟨rfl, xin (List.mem_of_getElem? (i := 1075) (by decide +kernel)) rfl⟩, xin (List.mem_of_getElem? (i := 12) (by decide +kernel)) rfl, by decide⟩
theorem ar_Mod_isFound : xAr mMod_isFound 1 := by unfold xAr; decide +kernel
theorem cd_Mod_analyse : xCode mMod_analyse := ⟨Or.inr ⟨rfl, xin (List.mem_of_getElem? (i := 1071) (by decide +kernel)) rfl⟩, xin (List.mem_of_getElem? (i := 12) (by decide +kernel)) rfl, by decide⟩
theorem ar_Mod_analyse : xAr mMod_analyse 0 := by unfold xAr; decide +kernel
theorem cd_Mod_length : xCode mMod_length := ⟨Or.inr ⟨rfl, xin (List.mem_of_getElem? (i := 1079) (by decide +kernel)) rfl⟩, xin (List.mem_of_getElem? (i := 12) (by decide +kernel)) rfl, by decide⟩
theorem ar_Mod_length : xAr mMod_length 2 := by unfold xAr; decide +kernel
theorem cd_Mod_result : xCode mMod_result := ⟨Or.inr ⟨rfl, xin (List.mem_of_getElem? (i := 1083) (by decide +kernel)) rfl⟩, xin (List.mem_of_getElem? (i := 12) (by decide +kernel)) rfl, by decide⟩
theorem ar_Mod_result : xAr mMod_result 3 := by unfold xAr; decide +kernel
theorem cd_Mod_sample : xCode mMod_sample := ⟨Or.inr ⟨rfl, xin (List.mem_of_getElem? (i := 1087) (by decide +kernel)) rfl⟩, xin (List.mem_of_getElem? (i := 12) (by decide +kernel)) rfl, by decide⟩
theorem ar_Mod_sample : xAr mMod_sample 0 := by unfold xAr; decide +kernel
theorem cd_Mod_check : xCode mMod_check := ⟨Or.inr ⟨rfl, xin (List.mem_of_getElem? (i := 1091) (by decide +kernel)) rfl⟩, xin (List.mem_of_getElem? (i := 12) (by decide +kernel)) rfl, by decide⟩
theorem ar_Mod_check : xAr mMod_check 0 := by unfold xAr; decide +kernel
theorem cd_Comp_init : xCode mComp_init := ⟨Or.inr ⟨rfl, xin (List.mem_of_getElem? (i := 188) (by decide +kernel)) rfl⟩, xin (List.mem_of_getElem? (i := 10) (by decide +kernel)) rfl, by decide⟩
theorem ar_Comp_init : xAr mComp_init 2 := by unfold xAr; decide +kernel
theorem cd_Comp_finds : xCode mComp_finds := ⟨Or.inr ⟨rfl, xin (List.mem_of_getElem? (i := 295) (by decide +kernel)) rfl⟩, xin (List.mem_of_getElem? (i := 10) (by decide +kernel)) rfl, by decide⟩
theorem ar_Comp_finds : xAr mComp_finds 2 := by unfold xAr; decide +kernel
theorem cd_Comp_culprit : xCode mComp_culprit := ⟨Or.inr ⟨rfl, xin (List.mem_of_getElem? (i := 441) (by decide +kernel)) rfl⟩, xin (List.mem_of_getElem? (i := 10) (by decide +kernel)) rfl, by decide⟩
theorem ar_Comp_culprit : xAr mComp_culprit 0 := by unfold xAr; decide +kernel
theorem cd_Comp_takesUpper : xCode mComp_takesUpper := ⟨Or.inr ⟨rfl, xin (List.mem_of_getElem? (i := 425) (by decide +kernel)) rfl⟩, xin (List.mem_of_getElem? (i := 10) (by decide +kernel)) rfl, by decide⟩
theorem ar_Comp_takesUpper : xAr mComp_takesUpper 2 := by unfold xAr; decide +kernel
theorem cd_Comp_mayEnd : xCode mComp_mayEnd := ⟨Or.inr ⟨rfl, xin (List.mem_of_getElem? (i := 338) (by decide +kernel)) rfl⟩, xin (List.mem_of_getElem? (i := 10) (by decide +kernel)) rfl, by decide⟩
theorem ar_Comp_mayEnd : xAr mComp_mayEnd 1 := by unfold xAr; decide +kernel
theorem cd_Comp_meet : xCode mComp_meet := ⟨Or.inr ⟨rfl, xin (List.mem_of_getElem? (i := 360) (by decide +kernel)) rfl⟩, xin (List.mem_of_getElem? (i := 10) (by decide +kernel)) rfl, by decide⟩
theorem ar_Comp_meet : xAr mComp_meet 2 := by unfold xAr; decide +kernel
theorem cd_Comp_isDone : xCode mComp_isDone := ⟨Or.inr ⟨rfl, xin (List.mem_of_getElem? (i := 399) (by decide +kernel)) rfl⟩, xin (List.mem_of_getElem? (i := 10) (by decide +kernel)) rfl, by decide⟩
theorem ar_Comp_isDone : xAr mComp_isDone 0 := by unfold xAr; decide +kernel
theorem cd_Lexi_init : xCode mLexi_init := ⟨Or.inr ⟨rfl, xin (List.mem_of_getElem? (i := 112) (by decide +kernel)) rfl⟩, xin (List.mem_of_getElem? (i := 5) (by decide +kernel)) rfl, by decide⟩
theorem ar_Lexi_init : xAr mLexi_init 0 := by unfold xAr; decide +kernel
theorem cd_Lexi_count : xCode mLexi_count := ⟨Or.inr ⟨rfl, xin (List.mem_of_getElem? (i := 673) (by decide +kernel)) rfl⟩, xin (List.mem_of_getElem? (i := 5) (by decide +kernel)) rfl, by decide⟩
theorem ar_Lexi_count : xAr mLexi_count 0 := by unfold xAr; decide +kernel
theorem cd_Lexi_signsOf : xCode mLexi_signsOf := ⟨Or.inr ⟨rfl, xin (List.mem_of_getElem? (i := 690) (by decide +kernel)) rfl⟩, xin (List.mem_of_getElem? (i := 5) (by decide +kernel)) rfl, by decide⟩
theorem ar_Lexi_signsOf : xAr mLexi_signsOf 1 := by unfold xAr; decide +kernel
theorem cd_Lexi_add : xCode mLexi_add := ⟨Or.inr ⟨rfl, xin (List.mem_of_getElem? (i := 678) (by decide +kernel)) rfl⟩, xin (List.mem_of_getElem? (i := 5) (by decide +kernel)) rfl, by decide⟩
theorem ar_Lexi_add : xAr mLexi_add 2 := by unfold xAr; decide +kernel
theorem cd_Lexi_goOn : xCode mLexi_goOn := ⟨Or.inr ⟨rfl, xin (List.mem_of_getElem? (i := 735) (by decide +kernel)) rfl⟩, xin (List.mem_of_getElem? (i := 5) (by decide +kernel)) rfl, by decide⟩
theorem ar_Lexi_goOn : xAr mLexi_goOn 5 := by unfold xAr; decide +kernel
theorem cd_Lexi_put : xCode mLexi_put := ⟨Or.inr ⟨rfl, xin (List.mem_of_getElem? (i := 744) (by decide +kernel)) rfl⟩, xin (List.mem_of_getElem? (i := 5) (by decide +kernel)) rfl, by decide⟩
theorem ar_Lexi_put : xAr mLexi_put 5 := by unfold xAr; decide +kernel
theorem cd_Line_init : xCode mLine_init := ⟨Or.inr ⟨rfl, xin (List.mem_of_getElem? (i := 119) (by decide +kernel)) rfl⟩, xin (List.mem_of_getElem? (i := 6) (by decide +kernel)) rfl, by decide⟩
theorem ar_Line_init : xAr mLine_init 1 := by unfold xAr; decide +kernel
theorem cd_Line_size : xCode mLine_size := ⟨Or.inr ⟨rfl, xin (List.mem_of_getElem? (i := 283) (by decide +kernel)) rfl⟩, xin (List.mem_of_getElem? (i := 6) (by decide +kernel)) rfl, by decide⟩
theorem ar_Line_size : xAr mLine_size 0 := by unfold xAr; decide +kernel
theorem cd_Line_isFull : xCode mLine_isFull := ⟨Or.inr ⟨rfl, xin (List.mem_of_getElem? (i := 312) (by decide +kernel)) rfl⟩, xin (List.mem_of_getElem? (i := 6) (by decide +kernel)) rfl, by decide⟩
theorem ar_Line_isFull : xAr mLine_isFull 0 := by unfold xAr; decide +kernel
theorem cd_Line_hasRoomFor : xCode mLine_hasRoomFor := ⟨Or.inr ⟨rfl, xin (List.mem_of_getElem? (i := 740) (by decide +kernel)) rfl⟩, xin (List.mem_of_getElem? (i := 6) (by decide +kernel)) rfl, by decide⟩
theorem ar_Line_hasRoomFor : xAr mLine_hasRoomFor 1 := by unfold xAr; decide +kernel
theorem cd_Line_signAt : xCode mLine_signAt := ⟨Or.inr ⟨rfl, xin (List.mem_of_getElem? (i := 385) (by decide +kernel)) rfl⟩, xin (List.mem_of_getElem? (i := 6) (by decide +kernel)) rfl, by decide⟩
theorem ar_Line_signAt : xAr mLine_signAt 1 := by unfold xAr; decide +kernel
theorem cd_Line_add : xCode mLine_add := ⟨Or.inr ⟨rfl, xin (List.mem_of_getElem? (i := 308) (by decide +kernel)) rfl⟩, xin (List.mem_of_getElem? (i := 6) (by decide +kernel)) rfl, by decide⟩
theorem ar_Line_add : xAr mLine_add 1 := by unfold xAr; decide +kernel
theorem cd_Line_addAll : xCode mLine_addAll := ⟨Or.inr ⟨rfl, xin (List.mem_of_getElem? (i := 304) (by decide +kernel)) rfl⟩, xin (List.mem_of_getElem? (i := 6) (by decide +kernel)) rfl, by decide⟩
theorem ar_Line_addAll : xAr mLine_addAll 1 := by unfold xAr; decide +kernel
theorem cd_Line_cutTo : xCode mLine_cutTo := ⟨Or.inr ⟨rfl, xin (List.mem_of_getElem? (i := 287) (by decide +kernel)) rfl⟩, xin (List.mem_of_getElem? (i := 6) (by decide +kernel)) rfl, by decide⟩
theorem ar_Line_cutTo : xAr mLine_cutTo 1 := by unfold xAr; decide +kernel
theorem cd_Line_copy : xCode mLine_copy := ⟨Or.inr ⟨rfl, xin (List.mem_of_getElem? (i := 299) (by decide +kernel)) rfl⟩, xin (List.mem_of_getElem? (i := 6) (by decide +kernel)) rfl, by decide⟩
theorem ar_Line_copy : xAr mLine_copy 1 := by unfold xAr; decide +kernel
theorem cd_Pairs_init : xCode mPairs_init := ⟨Or.inr ⟨rfl, xin (List.mem_of_getElem? (i := 32) (by decide +kernel)) rfl⟩, xin (List.mem_of_getElem? (i := 2) (by decide +kernel)) rfl, by decide⟩
theorem ar_Pairs_init : xAr mPairs_init 0 := by unfold xAr; decide +kernel
theorem cd_Pairs_count : xCode mPairs_count := ⟨Or.inr ⟨rfl, xin (List.mem_of_getElem? (i := 393) (by decide +kernel)) rfl⟩, xin (List.mem_of_getElem? (i := 2) (by decide +kernel)) rfl, by decide⟩
theorem ar_Pairs_count : xAr mPairs_count 0 := by unfold xAr; decide +kernel
theorem cd_Pairs_lowerOf : xCode mPairs_lowerOf := ⟨Or.inr ⟨rfl, xin (List.mem_of_getElem? (i := 414) (by decide +kernel)) rfl⟩, xin (List.mem_of_getElem? (i := 2) (by decide +kernel)) rfl, by decide⟩
theorem ar_Pairs_lowerOf : xAr mPairs_lowerOf 1 := by unfold xAr; decide +kernel
theorem cd_Pairs_upperOf : xCode mPairs_upperOf := ⟨Or.inr ⟨rfl, xin (List.mem_of_getElem? (i := 374) (by decide +kernel)) rfl⟩, xin (List.mem_of_getElem? (i := 2) (by decide +kernel)) rfl, by decide⟩
theorem ar_Pairs_upperOf : xAr mPairs_upperOf 1 := by unfold xAr; decide +kernel
theorem cd_Pairs_has : xCode mPairs_has := ⟨Or.inr ⟨rfl, xin (List.mem_of_getElem? (i := 544) (by decide +kernel)) rfl⟩, xin (List.mem_of_getElem? (i := 2) (by decide +kernel)) rfl, by decide⟩
theorem ar_Pairs_has : xAr mPairs_has 2 := by unfold xAr; decide +kernel
theorem cd_Pairs_hasRoomFor : xCode mPairs_hasRoomFor := ⟨Or.inr ⟨rfl, xin (List.mem_of_getElem? (i := 549) (by decide +kernel)) rfl⟩, xin (List.mem_of_getElem? (i := 2) (by decide +kernel)) rfl, by decide⟩
theorem ar_Pairs_hasRoomFor : xAr mPairs_hasRoomFor 1 := by unfold xAr; decide +kernel
theorem cd_Pairs_add : xCode mPairs_add := ⟨Or.inr ⟨rfl, xin (List.mem_of_getElem? (i := 573) (by decide +kernel)) rfl⟩, xin (List.mem_of_getElem? (i := 2) (by decide +kernel)) rfl, by decide⟩
theorem ar_Pairs_add : xAr mPairs_add 2 := by unfold xAr; decide +kernel
theorem cd_Patt_init : xCode mPatt_init := ⟨Or.inr ⟨rfl, xin (List.mem_of_getElem? (i := 55) (by decide +kernel)) rfl⟩, xin (List.mem_of_getElem? (i := 4) (by decide +kernel)) rfl, by decide⟩
theorem ar_Patt_init : xAr mPatt_init 1 := by unfold xAr; decide +kernel
theorem cd_Patt_goalOf : xCode mPatt_goalOf := ⟨Or.inr ⟨rfl, xin (List.mem_of_getElem? (i := 631) (by decide +kernel)) rfl⟩, xin (List.mem_of_getElem? (i := 4) (by decide +kernel)) rfl, by decide⟩
theorem ar_Patt_goalOf : xAr mPatt_goalOf 1 := by unfold xAr; decide +kernel
theorem cd_Patt_open : xCode mPatt_open := ⟨Or.inr ⟨rfl, xin (List.mem_of_getElem? (i := 628) (by decide +kernel)) rfl⟩, xin (List.mem_of_getElem? (i := 4) (by decide +kernel)) rfl, by decide⟩
theorem ar_Patt_open : xAr mPatt_open 2 := by unfold xAr; decide +kernel
theorem cd_Patt_elementsOf : xCode mPatt_elementsOf := ⟨Or.inr ⟨rfl, xin (List.mem_of_getElem? (i := 646) (by decide +kernel)) rfl⟩, xin (List.mem_of_getElem? (i := 4) (by decide +kernel)) rfl, by decide⟩
theorem ar_Patt_elementsOf : xAr mPatt_elementsOf 1 := by unfold xAr; decide +kernel
theorem cd_Patt_addElement : xCode mPatt_addElement := ⟨Or.inr ⟨rfl, xin (List.mem_of_getElem? (i := 651) (by decide +kernel)) rfl⟩, xin (List.mem_of_getElem? (i := 4) (by decide +kernel)) rfl, by decide⟩
theorem ar_Patt_addElement : xAr mPatt_addElement 3 := by unfold xAr; decide +kernel
theorem cd_Patt_lowerElements : xCode mPatt_lowerElements := ⟨Or.inr ⟨rfl, xin (List.mem_of_getElem? (i := 658) (by decide +kernel)) rfl⟩, xin (List.mem_of_getElem? (i := 4) (by decide +kernel)) rfl, by decide⟩
theorem ar_Patt_lowerElements : xAr mPatt_lowerElements 1 := by unfold xAr; decide +kernel
theorem cd_Patt_lowered : xCode mPatt_lowered := ⟨Or.inr ⟨rfl, xin (List.mem_of_getElem? (i := 654) (by decide +kernel)) rfl⟩, xin (List.mem_of_getElem? (i := 4) (by decide +kernel)) rfl, by decide⟩
theorem ar_Patt_lowered : xAr mPatt_lowered 2 := by unfold xAr; decide +kernel
theorem cd_Patt_first : xCode mPatt_first := ⟨Or.inr ⟨rfl, xin (List.mem_of_getElem? (i := 323) (by decide +kernel)) rfl⟩, xin (List.mem_of_getElem? (i := 4) (by decide +kernel)) rfl, by decide⟩
theorem ar_Patt_first : xAr mPatt_first 0 := by unfold xAr; decide +kernel
theorem cd_Patt_next : xCode mPatt_next := ⟨Or.inr ⟨rfl, xin (List.mem_of_getElem? (i := 354) (by decide +kernel)) rfl⟩, xin (List.mem_of_getElem? (i := 4) (by decide +kernel)) rfl, by decide⟩
theorem ar_Patt_next : xAr mPatt_next 2 := by unfold xAr; decide +kernel
theorem cd_Patt_skipStarred : xCode mPatt_skipStarred := ⟨Or.inr ⟨rfl, xin (List.mem_of_getElem? (i := 327) (by decide +kernel)) rfl⟩, xin (List.mem_of_getElem? (i := 4) (by decide +kernel)) rfl, by decide⟩
theorem ar_Patt_skipStarred : xAr mPatt_skipStarred 1 := by unfold xAr; decide +kernel
theorem cd_Resu_init : xCode mResu_init := ⟨Or.inr ⟨rfl, xin (List.mem_of_getElem? (i := 171) (by decide +kernel)) rfl⟩, xin (List.mem_of_getElem? (i := 8) (by decide +kernel)) rfl, by decide⟩
theorem ar_Resu_init : xAr mResu_init 0 := by unfold xAr; decide +kernel
theorem cd_Resu_count : xCode mResu_count := ⟨Or.inr ⟨rfl, xin (List.mem_of_getElem? (i := 724) (by decide +kernel)) rfl⟩, xin (List.mem_of_getElem? (i := 8) (by decide +kernel)) rfl, by decide⟩
theorem ar_Resu_count : xAr mResu_count 0 := by unfold xAr; decide +kernel
theorem cd_Resu_isTooMany : xCode mResu_isTooMany := ⟨Or.inr ⟨rfl, xin (List.mem_of_getElem? (i := 406) (by decide +kernel)) rfl⟩, xin (List.mem_of_getElem? (i := 8) (by decide +kernel)) rfl, by decide⟩
theorem ar_Resu_isTooMany : xAr mResu_isTooMany 0 := by unfold xAr; decide +kernel
theorem cd_Resu_clear : xCode mResu_clear := ⟨Or.inr ⟨rfl, xin (List.mem_of_getElem? (i := 569) (by decide +kernel)) rfl⟩, xin (List.mem_of_getElem? (i := 8) (by decide +kernel)) rfl, by decide⟩
theorem ar_Resu_clear : xAr mResu_clear 0 := by unfold xAr; decide +kernel
theorem cd_Resu_copy : xCode mResu_copy := ⟨Or.inr ⟨rfl, xin (List.mem_of_getElem? (i := 717) (by decide +kernel)) rfl⟩, xin (List.mem_of_getElem? (i := 8) (by decide +kernel)) rfl, by decide⟩
theorem ar_Resu_copy : xAr mResu_copy 1 := by unfold xAr; decide +kernel
theorem cd_Resu_add : xCode mResu_add := ⟨Or.inr ⟨rfl, xin (List.mem_of_getElem? (i := 389) (by decide +kernel)) rfl⟩, xin (List.mem_of_getElem? (i := 8) (by decide +kernel)) rfl, by decide⟩
theorem ar_Resu_add : xAr mResu_add 1 := by unfold xAr; decide +kernel
theorem cd_Resu_keyOf : xCode mResu_keyOf := ⟨Or.inr ⟨rfl, xin (List.mem_of_getElem? (i := 380) (by decide +kernel)) rfl⟩, xin (List.mem_of_getElem? (i := 8) (by decide +kernel)) rfl, by decide⟩
theorem ar_Resu_keyOf : xAr mResu_keyOf 3 := by unfold xAr; decide +kernel
theorem cd_Resu_signsOf : xCode mResu_signsOf := ⟨Or.inr ⟨rfl, xin (List.mem_of_getElem? (i := 788) (by decide +kernel)) rfl⟩, xin (List.mem_of_getElem? (i := 8) (by decide +kernel)) rfl, by decide⟩
theorem ar_Resu_signsOf : xAr mResu_signsOf 1 := by unfold xAr; decide +kernel
theorem cd_Resu_signOf : xCode mResu_signOf := ⟨Or.inr ⟨rfl, xin (List.mem_of_getElem? (i := 804) (by decide +kernel)) rfl⟩, xin (List.mem_of_getElem? (i := 8) (by decide +kernel)) rfl, by decide⟩
theorem ar_Resu_signOf : xAr mResu_signOf 2 := by unfold xAr; decide +kernel
theorem cd_Resu_entriesOf : xCode mResu_entriesOf := ⟨Or.inr ⟨rfl, xin (List.mem_of_getElem? (i := 779) (by decide +kernel)) rfl⟩, xin (List.mem_of_getElem? (i := 8) (by decide +kernel)) rfl, by decide⟩
theorem ar_Resu_entriesOf : xAr mResu_entriesOf 1 := by unfold xAr; decide +kernel
theorem cd_Resu_entryOf : xCode mResu_entryOf := ⟨Or.inr ⟨rfl, xin (List.mem_of_getElem? (i := 800) (by decide +kernel)) rfl⟩, xin (List.mem_of_getElem? (i := 8) (by decide +kernel)) rfl, by decide⟩
theorem ar_Resu_entryOf : xAr mResu_entryOf 2 := by unfold xAr; decide +kernel
theorem cd_Resu_digitOf : xCode mResu_digitOf := ⟨Or.inr ⟨rfl, xin (List.mem_of_getElem? (i := 783) (by decide +kernel)) rfl⟩, xin (List.mem_of_getElem? (i := 8) (by decide +kernel)) rfl, by decide⟩
theorem ar_Resu_digitOf : xAr mResu_digitOf 2 := by unfold xAr; decide +kernel
theorem cd_Rule_init : xCode mRule_init := ⟨Or.inr ⟨rfl, xin (List.mem_of_getElem? (i := 49) (by decide +kernel)) rfl⟩, xin (List.mem_of_getElem? (i := 3) (by decide +kernel)) rfl, by decide⟩
theorem ar_Rule_init : xAr mRule_init 0 := by unfold xAr; decide +kernel
theorem cd_Rule_count : xCode mRule_count := ⟨Or.inr ⟨rfl, xin (List.mem_of_getElem? (i := 598) (by decide +kernel)) rfl⟩, xin (List.mem_of_getElem? (i := 3) (by decide +kernel)) rfl, by decide⟩
theorem ar_Rule_count : xAr mRule_count 0 := by unfold xAr; decide +kernel
theorem cd_Rule_add : xCode mRule_add := ⟨Or.inr ⟨rfl, xin (List.mem_of_getElem? (i := 603) (by decide +kernel)) rfl⟩, xin (List.mem_of_getElem? (i := 3) (by decide +kernel)) rfl, by decide⟩
theorem ar_Rule_add : xAr mRule_add 2 := by unfold xAr; decide +kernel
theorem cd_Rule_contextsOf : xCode mRule_contextsOf := ⟨Or.inr ⟨rfl, xin (List.mem_of_getElem? (i := 615) (by decide +kernel)) rfl⟩, xin (List.mem_of_getElem? (i := 3) (by decide +kernel)) rfl, by decide⟩
theorem ar_Rule_contextsOf : xAr mRule_contextsOf 1 := by unfold xAr; decide +kernel
theorem cd_Rule_latestContextOf : xCode mRule_latestContextOf := ⟨Or.inr ⟨rfl, xin (List.mem_of_getElem? (i := 624) (by decide +kernel)) rfl⟩, xin (List.mem_of_getElem? (i := 3) (by decide +kernel)) rfl, by decide⟩
theorem ar_Rule_latestContextOf : xAr mRule_latestContextOf 1 := by unfold xAr; decide +kernel
theorem cd_Rule_addContext : xCode mRule_addContext := ⟨Or.inr ⟨rfl, xin (List.mem_of_getElem? (i := 620) (by decide +kernel)) rfl⟩, xin (List.mem_of_getElem? (i := 3) (by decide +kernel)) rfl, by decide⟩
theorem ar_Rule_addContext : xAr mRule_addContext 3 := by unfold xAr; decide +kernel
theorem cd_Rule_settle : xCode mRule_settle := ⟨Or.inr ⟨rfl, xin (List.mem_of_getElem? (i := 577) (by decide +kernel)) rfl⟩, xin (List.mem_of_getElem? (i := 3) (by decide +kernel)) rfl, by decide⟩
theorem ar_Rule_settle : xAr mRule_settle 1 := by unfold xAr; decide +kernel
theorem cd_Rule_asks : xCode mRule_asks := ⟨Or.inr ⟨rfl, xin (List.mem_of_getElem? (i := 582) (by decide +kernel)) rfl⟩, xin (List.mem_of_getElem? (i := 3) (by decide +kernel)) rfl, by decide⟩
theorem ar_Rule_asks : xAr mRule_asks 2 := by unfold xAr; decide +kernel
theorem cd_Rule_bars : xCode mRule_bars := ⟨Or.inr ⟨rfl, xin (List.mem_of_getElem? (i := 585) (by decide +kernel)) rfl⟩, xin (List.mem_of_getElem? (i := 3) (by decide +kernel)) rfl, by decide⟩
theorem ar_Rule_bars : xAr mRule_bars 3 := by unfold xAr; decide +kernel
theorem cd_Rule_brokenBy : xCode mRule_brokenBy := ⟨Or.inr ⟨rfl, xin (List.mem_of_getElem? (i := 350) (by decide +kernel)) rfl⟩, xin (List.mem_of_getElem? (i := 3) (by decide +kernel)) rfl, by decide⟩
theorem ar_Rule_brokenBy : xAr mRule_brokenBy 3 := by unfold xAr; decide +kernel
theorem cd_Samp_init : xCode mSamp_init := ⟨Or.inr ⟨rfl, xin (List.mem_of_getElem? (i := 153) (by decide +kernel)) rfl⟩, xin (List.mem_of_getElem? (i := 7) (by decide +kernel)) rfl, by decide⟩
theorem ar_Samp_init : xAr mSamp_init 0 := by unfold xAr; decide +kernel
theorem cd_Samp_count : xCode mSamp_count := ⟨Or.inr ⟨rfl, xin (List.mem_of_getElem? (i := 449) (by decide +kernel)) rfl⟩, xin (List.mem_of_getElem? (i := 7) (by decide +kernel)) rfl, by decide⟩
theorem ar_Samp_count : xAr mSamp_count 0 := by unfold xAr; decide +kernel
theorem cd_Samp_lowerOf : xCode mSamp_lowerOf := ⟨Or.inr ⟨rfl, xin (List.mem_of_getElem? (i := 453) (by decide +kernel)) rfl⟩, xin (List.mem_of_getElem? (i := 7) (by decide +kernel)) rfl, by decide⟩
theorem ar_Samp_lowerOf : xAr mSamp_lowerOf 1 := by unfold xAr; decide +kernel
theorem cd_Samp_upperOf : xCode mSamp_upperOf := ⟨Or.inr ⟨rfl, xin (List.mem_of_getElem? (i := 457) (by decide +kernel)) rfl⟩, xin (List.mem_of_getElem? (i := 7) (by decide +kernel)) rfl, by decide⟩
theorem ar_Samp_upperOf : xAr mSamp_upperOf 1 := by unfold xAr; decide +kernel
theorem cd_Samp_add : xCode mSamp_add := ⟨Or.inr ⟨rfl, xin (List.mem_of_getElem? (i := 816) (by decide +kernel)) rfl⟩, xin (List.mem_of_getElem? (i := 7) (by decide +kernel)) rfl, by decide⟩
theorem ar_Samp_add : xAr mSamp_add 2 := by unfold xAr; decide +kernel
theorem cd_Sear_init : xCode mSear_init := ⟨Or.inr ⟨rfl, xin (List.mem_of_getElem? (i := 191) (by decide +kernel)) rfl⟩, xin (List.mem_of_getElem? (i := 9) (by decide +kernel)) rfl, by decide⟩
theorem ar_Sear_init : xAr mSear_init 2 := by unfold xAr; decide +kernel
theorem cd_Sear_goThrough : xCode mSear_goThrough := ⟨Or.inr ⟨rfl, xin (List.mem_of_getElem? (i := 318) (by decide +kernel)) rfl⟩, xin (List.mem_of_getElem? (i := 9) (by decide +kernel)) rfl, by decide⟩
theorem ar_Sear_goThrough : xAr mSear_goThrough 1 := by unfold xAr; decide +kernel
theorem cd_Sear_upperAt : xCode mSear_upperAt := ⟨Or.inr ⟨rfl, xin (List.mem_of_getElem? (i := 370) (by decide +kernel)) rfl⟩, xin (List.mem_of_getElem? (i := 9) (by decide +kernel)) rfl, by decide⟩
theorem ar_Sear_upperAt : xAr mSear_upperAt 1 := by unfold xAr; decide +kernel
theorem cd_Sear_extend : xCode mSear_extend := ⟨Or.inr ⟨rfl, xin (List.mem_of_getElem? (i := 331) (by decide +kernel)) rfl⟩, xin (List.mem_of_getElem? (i := 9) (by decide +kernel)) rfl, by decide⟩
theorem ar_Sear_extend : xAr mSear_extend 3 := by unfold xAr; decide +kernel
theorem cd_Sear_put : xCode mSear_put := ⟨Or.inr ⟨rfl, xin (List.mem_of_getElem? (i := 433) (by decide +kernel)) rfl⟩, xin (List.mem_of_getElem? (i := 9) (by decide +kernel)) rfl, by decide⟩
theorem ar_Sear_put : xAr mSear_put 4 := by unfold xAr; decide +kernel
theorem cd_Sear_fitsLower : xCode mSear_fitsLower := ⟨Or.inr ⟨rfl, xin (List.mem_of_getElem? (i := 410) (by decide +kernel)) rfl⟩, xin (List.mem_of_getElem? (i := 9) (by decide +kernel)) rfl, by decide⟩
theorem ar_Sear_fitsLower : xAr mSear_fitsLower 3 := by unfold xAr; decide +kernel
theorem cd_Sear_fitsUpper : xCode mSear_fitsUpper := ⟨Or.inr ⟨rfl, xin (List.mem_of_getElem? (i := 419) (by decide +kernel)) rfl⟩, xin (List.mem_of_getElem? (i := 9) (by decide +kernel)) rfl, by decide⟩
theorem ar_Sear_fitsUpper : xAr mSear_fitsUpper 2 := by unfold xAr; decide +kernel
theorem cd_Sear_brokenRules : xCode mSear_brokenRules := ⟨Or.inr ⟨rfl, xin (List.mem_of_getElem? (i := 346) (by decide +kernel)) rfl⟩, xin (List.mem_of_getElem? (i := 9) (by decide +kernel)) rfl, by decide⟩
theorem ar_Sear_brokenRules : xAr mSear_brokenRules 1 := by unfold xAr; decide +kernel
theorem cd_Writ_init : xCode mWrit_init := ⟨Or.inr ⟨rfl, xin (List.mem_of_getElem? (i := 229) (by decide +kernel)) rfl⟩, xin (List.mem_of_getElem? (i := 11) (by decide +kernel)) rfl, by decide⟩
theorem ar_Writ_init : xAr mWrit_init 3 := by unfold xAr; decide +kernel
theorem cd_Writ_takesUpper : xCode mWrit_takesUpper := ⟨Or.inr ⟨rfl, xin (List.mem_of_getElem? (i := 429) (by decide +kernel)) rfl⟩, xin (List.mem_of_getElem? (i := 11) (by decide +kernel)) rfl, by decide⟩
theorem ar_Writ_takesUpper : xAr mWrit_takesUpper 2 := by unfold xAr; decide +kernel
theorem cd_Writ_mayEnd : xCode mWrit_mayEnd := ⟨Or.inr ⟨rfl, xin (List.mem_of_getElem? (i := 342) (by decide +kernel)) rfl⟩, xin (List.mem_of_getElem? (i := 11) (by decide +kernel)) rfl, by decide⟩
theorem ar_Writ_mayEnd : xAr mWrit_mayEnd 1 := by unfold xAr; decide +kernel
theorem cd_Writ_meet : xCode mWrit_meet := ⟨Or.inr ⟨rfl, xin (List.mem_of_getElem? (i := 363) (by decide +kernel)) rfl⟩, xin (List.mem_of_getElem? (i := 11) (by decide +kernel)) rfl, by decide⟩
theorem ar_Writ_meet : xAr mWrit_meet 2 := by unfold xAr; decide +kernel
theorem cd_Writ_isDone : xCode mWrit_isDone := ⟨Or.inr ⟨rfl, xin (List.mem_of_getElem? (i := 402) (by decide +kernel)) rfl⟩, xin (List.mem_of_getElem? (i := 11) (by decide +kernel)) rfl, by decide⟩
theorem ar_Writ_isDone : xAr mWrit_isDone 0 := by unfold xAr; decide +kernel
theorem cd_Law_pair : xCode mLaw_pair := ⟨Or.inl (xin (List.mem_of_getElem? (i := 460) (by decide +kernel)) rfl), xin (List.mem_of_getElem? (i := 0) (by decide +kernel)) rfl, by decide⟩
theorem ar_Law_pair : xAr mLaw_pair 4 := by unfold xAr; decide +kernel
theorem cd_Law_rule : xCode mLaw_rule := ⟨Or.inl (xin (List.mem_of_getElem? (i := 588) (by decide +kernel)) rfl), xin (List.mem_of_getElem? (i := 0) (by decide +kernel)) rfl, by decide⟩
theorem ar_Law_rule : xAr mLaw_rule 4 := by unfold xAr; decide +kernel
theorem cd_Law_context : xCode mLaw_context := ⟨Or.inl (xin (List.mem_of_getElem? (i := 606) (by decide +kernel)) rfl), xin (List.mem_of_getElem? (i := 0) (by decide +kernel)) rfl, by decide⟩
theorem ar_Law_context : xAr mLaw_context 5 := by unfold xAr; decide +kernel
theorem cd_Law_element : xCode mLaw_element := ⟨Or.inl (xin (List.mem_of_getElem? (i := 635) (by decide +kernel)) rfl), xin (List.mem_of_getElem? (i := 0) (by decide +kernel)) rfl, by decide⟩
theorem ar_Law_element : xAr mLaw_element 6 := by unfold xAr; decide +kernel
theorem cd_Law_entry : xCode mLaw_entry := ⟨Or.inl (xin (List.mem_of_getElem? (i := 661) (by decide +kernel)) rfl), xin (List.mem_of_getElem? (i := 0) (by decide +kernel)) rfl, by decide⟩
theorem ar_Law_entry : xAr mLaw_entry 4 := by unfold xAr; decide +kernel
theorem cd_Law_spell : xCode mLaw_spell := ⟨Or.inl (xin (List.mem_of_getElem? (i := 681) (by decide +kernel)) rfl), xin (List.mem_of_getElem? (i := 0) (by decide +kernel)) rfl, by decide⟩
theorem ar_Law_spell : xAr mLaw_spell 4 := by unfold xAr; decide +kernel
theorem cd_Law_type : xCode mLaw_type := ⟨Or.inl (xin (List.mem_of_getElem? (i := 696) (by decide +kernel)) rfl), xin (List.mem_of_getElem? (i := 0) (by decide +kernel)) rfl, by decide⟩
theorem ar_Law_type : xAr mLaw_type 4 := by unfold xAr; decide +kernel
theorem cd_Law_write : xCode mLaw_write := ⟨Or.inl (xin (List.mem_of_getElem? (i := 704) (by decide +kernel)) rfl), xin (List.mem_of_getElem? (i := 0) (by decide +kernel)) rfl, by decide⟩
theorem ar_Law_write : xAr mLaw_write 2 := by unfold xAr; decide +kernel
theorem cd_Law_analyse : xCode mLaw_analyse := ⟨Or.inl (xin (List.mem_of_getElem? (i := 727) (by decide +kernel)) rfl), xin (List.mem_of_getElem? (i := 0) (by decide +kernel)) rfl, by decide⟩
theorem ar_Law_analyse : xAr mLaw_analyse 2 := by unfold xAr; decide +kernel
theorem cd_Law_length : xCode mLaw_length := ⟨Or.inl (xin (List.mem_of_getElem? (i := 754) (by decide +kernel)) rfl), xin (List.mem_of_getElem? (i := 0) (by decide +kernel)) rfl, by decide⟩
theorem ar_Law_length : xAr mLaw_length 4 := by unfold xAr; decide +kernel
theorem cd_Law_result : xCode mLaw_result := ⟨Or.inl (xin (List.mem_of_getElem? (i := 791) (by decide +kernel)) rfl), xin (List.mem_of_getElem? (i := 0) (by decide +kernel)) rfl, by decide⟩
theorem ar_Law_result : xAr mLaw_result 5 := by unfold xAr; decide +kernel
theorem cd_Law_sample : xCode mLaw_sample := ⟨Or.inl (xin (List.mem_of_getElem? (i := 807) (by decide +kernel)) rfl), xin (List.mem_of_getElem? (i := 0) (by decide +kernel)) rfl, by decide⟩
theorem ar_Law_sample : xAr mLaw_sample 2 := by unfold xAr; decide +kernel
