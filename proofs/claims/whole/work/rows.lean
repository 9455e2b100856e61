section
-- ===== PART A: goes FIRST, ahead of the names: the tables' words, and 'selects' of the private methods out of them =====
/-- a private method of a class that the tables say can be made, by its rows of tables_1 -/
def lw_okq (q : MethodName × Nat) : Prop := (q.1.cls ≠ "java/lang/invoke/MethodHandle" ∧ q.1.cls ≠ "java/lang/invoke/VarHandle") ∧ Cond.instantiable q.1.cls q.2 ∈ tables_1 ∧ Cond.privateMethod q.1 ∈ tables_1 ∧ Cond.instanceMethod q.1 ∈ tables_1
theorem lw_p0 : lw_okq (⟨"PairedWords$Patterns", "skipStarred", "(I)I"⟩, 6) := ⟨⟨by decide +kernel, by decide +kernel⟩, List.mem_of_getElem? (i := 52) (by decide +kernel), List.mem_of_getElem? (i := 325) (by decide +kernel), List.mem_of_getElem? (i := 326) (by decide +kernel)⟩
theorem lw_p1 : lw_okq (⟨"java/lang/Throwable", "fillInStackTrace", "(I)Ljava/lang/Throwable;"⟩, 6) := ⟨⟨by decide +kernel, by decide +kernel⟩, List.mem_of_getElem? (i := 512) (by decide +kernel), List.mem_of_getElem? (i := 510) (by decide +kernel), List.mem_of_getElem? (i := 511) (by decide +kernel)⟩
theorem lw_p2 : lw_okq (⟨"PairedWords$Patterns", "lowerElements", "(I)V"⟩, 6) := ⟨⟨by decide +kernel, by decide +kernel⟩, List.mem_of_getElem? (i := 52) (by decide +kernel), List.mem_of_getElem? (i := 656) (by decide +kernel), List.mem_of_getElem? (i := 657) (by decide +kernel)⟩
theorem lw_p3 : lw_okq (⟨"PairedWords$Lexicon", "goOn", "(IILPairedWords$Line;LPairedWords$Comparison;LPairedWords$Results;)V"⟩, 6) := ⟨⟨by decide +kernel, by decide +kernel⟩, List.mem_of_getElem? (i := 109) (by decide +kernel), List.mem_of_getElem? (i := 733) (by decide +kernel), List.mem_of_getElem? (i := 734) (by decide +kernel)⟩
theorem lw_p4 : lw_okq (⟨"PairedWords$Lexicon", "put", "(IILPairedWords$Line;LPairedWords$Comparison;LPairedWords$Results;)V"⟩, 6) := ⟨⟨by decide +kernel, by decide +kernel⟩, List.mem_of_getElem? (i := 109) (by decide +kernel), List.mem_of_getElem? (i := 742) (by decide +kernel), List.mem_of_getElem? (i := 743) (by decide +kernel)⟩
theorem lw_p5 : lw_okq (⟨"PairedWords$Results", "digitOf", "(II)I"⟩, 3) := ⟨⟨by decide +kernel, by decide +kernel⟩, List.mem_of_getElem? (i := 168) (by decide +kernel), List.mem_of_getElem? (i := 781) (by decide +kernel), List.mem_of_getElem? (i := 782) (by decide +kernel)⟩
theorem lw_p6 : lw_okq (⟨"PairedWordsModel", "noSign", "(II)Z"⟩, 42) := ⟨⟨by decide +kernel, by decide +kernel⟩, List.mem_of_getElem? (i := 819) (by decide +kernel), List.mem_of_getElem? (i := 961) (by decide +kernel), List.mem_of_getElem? (i := 962) (by decide +kernel)⟩
theorem lw_p7 : lw_okq (⟨"PairedWordsModel", "noRule", "(I)Z"⟩, 42) := ⟨⟨by decide +kernel, by decide +kernel⟩, List.mem_of_getElem? (i := 819) (by decide +kernel), List.mem_of_getElem? (i := 973) (by decide +kernel), List.mem_of_getElem? (i := 974) (by decide +kernel)⟩
theorem lw_p8 : lw_okq (⟨"PairedWordsModel", "take", "([IIIII)V"⟩, 42) := ⟨⟨by decide +kernel, by decide +kernel⟩, List.mem_of_getElem? (i := 819) (by decide +kernel), List.mem_of_getElem? (i := 1001) (by decide +kernel), List.mem_of_getElem? (i := 1002) (by decide +kernel)⟩
theorem lw_p9 : lw_okq (⟨"PairedWordsModel", "doBelong", "()Z"⟩, 42) := ⟨⟨by decide +kernel, by decide +kernel⟩, List.mem_of_getElem? (i := 819) (by decide +kernel), List.mem_of_getElem? (i := 1005) (by decide +kernel), List.mem_of_getElem? (i := 1006) (by decide +kernel)⟩
theorem lw_p10 : lw_okq (⟨"PairedWordsModel", "begin", "()V"⟩, 42) := ⟨⟨by decide +kernel, by decide +kernel⟩, List.mem_of_getElem? (i := 819) (by decide +kernel), List.mem_of_getElem? (i := 1009) (by decide +kernel), List.mem_of_getElem? (i := 1010) (by decide +kernel)⟩
theorem lw_p11 : lw_okq (⟨"PairedWordsModel", "nextAlignment", "(Z)Z"⟩, 42) := ⟨⟨by decide +kernel, by decide +kernel⟩, List.mem_of_getElem? (i := 819) (by decide +kernel), List.mem_of_getElem? (i := 1013) (by decide +kernel), List.mem_of_getElem? (i := 1014) (by decide +kernel)⟩
theorem lw_p12 : lw_okq (⟨"PairedWordsModel", "mayCome", "(IZ)Z"⟩, 42) := ⟨⟨by decide +kernel, by decide +kernel⟩, List.mem_of_getElem? (i := 819) (by decide +kernel), List.mem_of_getElem? (i := 1017) (by decide +kernel), List.mem_of_getElem? (i := 1018) (by decide +kernel)⟩
theorem lw_p13 : lw_okq (⟨"PairedWordsModel", "keepsAll", "()Z"⟩, 42) := ⟨⟨by decide +kernel, by decide +kernel⟩, List.mem_of_getElem? (i := 819) (by decide +kernel), List.mem_of_getElem? (i := 1021) (by decide +kernel), List.mem_of_getElem? (i := 1022) (by decide +kernel)⟩
theorem lw_p14 : lw_okq (⟨"PairedWordsModel", "isKept", "(I)Z"⟩, 42) := ⟨⟨by decide +kernel, by decide +kernel⟩, List.mem_of_getElem? (i := 819) (by decide +kernel), List.mem_of_getElem? (i := 1025) (by decide +kernel), List.mem_of_getElem? (i := 1026) (by decide +kernel)⟩
theorem lw_p15 : lw_okq (⟨"PairedWordsModel", "holds", "(II)Z"⟩, 42) := ⟨⟨by decide +kernel, by decide +kernel⟩, List.mem_of_getElem? (i := 819) (by decide +kernel), List.mem_of_getElem? (i := 1029) (by decide +kernel), List.mem_of_getElem? (i := 1030) (by decide +kernel)⟩
def lw_privs_1 : List (MethodName × Nat) := [(⟨"PairedWords$Patterns", "skipStarred", "(I)I"⟩, 6), (⟨"java/lang/Throwable", "fillInStackTrace", "(I)Ljava/lang/Throwable;"⟩, 6), (⟨"PairedWords$Patterns", "lowerElements", "(I)V"⟩, 6), (⟨"PairedWords$Lexicon", "goOn", "(IILPairedWords$Line;LPairedWords$Comparison;LPairedWords$Results;)V"⟩, 6), (⟨"PairedWords$Lexicon", "put", "(IILPairedWords$Line;LPairedWords$Comparison;LPairedWords$Results;)V"⟩, 6), (⟨"PairedWords$Results", "digitOf", "(II)I"⟩, 3), (⟨"PairedWordsModel", "noSign", "(II)Z"⟩, 42), (⟨"PairedWordsModel", "noRule", "(I)Z"⟩, 42), (⟨"PairedWordsModel", "take", "([IIIII)V"⟩, 42), (⟨"PairedWordsModel", "doBelong", "()Z"⟩, 42), (⟨"PairedWordsModel", "begin", "()V"⟩, 42), (⟨"PairedWordsModel", "nextAlignment", "(Z)Z"⟩, 42), (⟨"PairedWordsModel", "mayCome", "(IZ)Z"⟩, 42), (⟨"PairedWordsModel", "keepsAll", "()Z"⟩, 42), (⟨"PairedWordsModel", "isKept", "(I)Z"⟩, 42), (⟨"PairedWordsModel", "holds", "(II)Z"⟩, 42)]
theorem lw_r1 : ∀ q ∈ lw_privs_1, lw_okq q := List.forall_mem_cons.mpr ⟨lw_p0, List.forall_mem_cons.mpr ⟨lw_p1, List.forall_mem_cons.mpr ⟨lw_p2, List.forall_mem_cons.mpr ⟨lw_p3, List.forall_mem_cons.mpr ⟨lw_p4, List.forall_mem_cons.mpr ⟨lw_p5, List.forall_mem_cons.mpr ⟨lw_p6, List.forall_mem_cons.mpr ⟨lw_p7, List.forall_mem_cons.mpr ⟨lw_p8, List.forall_mem_cons.mpr ⟨lw_p9, List.forall_mem_cons.mpr ⟨lw_p10, List.forall_mem_cons.mpr ⟨lw_p11, List.forall_mem_cons.mpr ⟨lw_p12, List.forall_mem_cons.mpr ⟨lw_p13, List.forall_mem_cons.mpr ⟨lw_p14, List.forall_mem_cons.mpr ⟨lw_p15, fun _ h => absurd h List.not_mem_nil⟩⟩⟩⟩⟩⟩⟩⟩⟩⟩⟩⟩⟩⟩⟩⟩
theorem lw_p16 : lw_okq (⟨"PairedWordsModel", "isMatched", "(III)Z"⟩, 42) := ⟨⟨by decide +kernel, by decide +kernel⟩, List.mem_of_getElem? (i := 819) (by decide +kernel), List.mem_of_getElem? (i := 1033) (by decide +kernel), List.mem_of_getElem? (i := 1034) (by decide +kernel)⟩
theorem lw_p17 : lw_okq (⟨"PairedWordsModel", "isPart", "(III)Z"⟩, 42) := ⟨⟨by decide +kernel, by decide +kernel⟩, List.mem_of_getElem? (i := 819) (by decide +kernel), List.mem_of_getElem? (i := 1037) (by decide +kernel), List.mem_of_getElem? (i := 1038) (by decide +kernel)⟩
theorem lw_p18 : lw_okq (⟨"PairedWordsModel", "allIn", "(III)Z"⟩, 42) := ⟨⟨by decide +kernel, by decide +kernel⟩, List.mem_of_getElem? (i := 819) (by decide +kernel), List.mem_of_getElem? (i := 1041) (by decide +kernel), List.mem_of_getElem? (i := 1042) (by decide +kernel)⟩
theorem lw_p19 : lw_okq (⟨"PairedWordsModel", "inSet", "(II)Z"⟩, 42) := ⟨⟨by decide +kernel, by decide +kernel⟩, List.mem_of_getElem? (i := 819) (by decide +kernel), List.mem_of_getElem? (i := 1045) (by decide +kernel), List.mem_of_getElem? (i := 1046) (by decide +kernel)⟩
theorem lw_p20 : lw_okq (⟨"PairedWordsModel", "put", "()Z"⟩, 42) := ⟨⟨by decide +kernel, by decide +kernel⟩, List.mem_of_getElem? (i := 819) (by decide +kernel), List.mem_of_getElem? (i := 1057) (by decide +kernel), List.mem_of_getElem? (i := 1058) (by decide +kernel)⟩
theorem lw_p21 : lw_okq (⟨"PairedWordsModel", "order", "(II)I"⟩, 42) := ⟨⟨by decide +kernel, by decide +kernel⟩, List.mem_of_getElem? (i := 819) (by decide +kernel), List.mem_of_getElem? (i := 1061) (by decide +kernel), List.mem_of_getElem? (i := 1062) (by decide +kernel)⟩
theorem lw_p22 : lw_okq (⟨"PairedWordsModel", "finish", "()I"⟩, 42) := ⟨⟨by decide +kernel, by decide +kernel⟩, List.mem_of_getElem? (i := 819) (by decide +kernel), List.mem_of_getElem? (i := 1065) (by decide +kernel), List.mem_of_getElem? (i := 1066) (by decide +kernel)⟩
theorem lw_p23 : lw_okq (⟨"PairedWordsModel", "isFound", "(I)Z"⟩, 42) := ⟨⟨by decide +kernel, by decide +kernel⟩, List.mem_of_getElem? (i := 819) (by decide +kernel), List.mem_of_getElem? (i := 1073) (by decide +kernel), List.mem_of_getElem? (i := 1074) (by decide +kernel)⟩
def lw_privs_2 : List (MethodName × Nat) := [(⟨"PairedWordsModel", "isMatched", "(III)Z"⟩, 42), (⟨"PairedWordsModel", "isPart", "(III)Z"⟩, 42), (⟨"PairedWordsModel", "allIn", "(III)Z"⟩, 42), (⟨"PairedWordsModel", "inSet", "(II)Z"⟩, 42), (⟨"PairedWordsModel", "put", "()Z"⟩, 42), (⟨"PairedWordsModel", "order", "(II)I"⟩, 42), (⟨"PairedWordsModel", "finish", "()I"⟩, 42), (⟨"PairedWordsModel", "isFound", "(I)Z"⟩, 42)]
theorem lw_r2 : ∀ q ∈ lw_privs_2, lw_okq q := List.forall_mem_cons.mpr ⟨lw_p16, List.forall_mem_cons.mpr ⟨lw_p17, List.forall_mem_cons.mpr ⟨lw_p18, List.forall_mem_cons.mpr ⟨lw_p19, List.forall_mem_cons.mpr ⟨lw_p20, List.forall_mem_cons.mpr ⟨lw_p21, List.forall_mem_cons.mpr ⟨lw_p22, List.forall_mem_cons.mpr ⟨lw_p23, fun _ h => absurd h List.not_mem_nil⟩⟩⟩⟩⟩⟩⟩⟩
def lw_privs : List (MethodName × Nat) := lw_privs_1 ++ (lw_privs_2)
def lw_tbl : List Cond := k2_sels lw_privs ++ tables_1
theorem lw_privs_ok : ∀ q ∈ lw_privs, lw_okq q := by
  show ∀ q ∈ lw_privs_1 ++ (lw_privs_2), lw_okq q
  exact List.forall_mem_append.mpr ⟨lw_r1, lw_r2⟩
end
section
/-- a word that stays true while the tables grow warmer -/
def xwk (w : Cond) : Bool := (w.onTables && (w.keepsFace || w.keepsH)) || goodWord w || (match w with | .arrayOver (.object _) => true | _ => false)
def xTAB : List Cond := lw_tbl.filter xwk
theorem xin {w : Cond} (h : w ∈ tables_1) (hk : xwk w = true) : w ∈ xTAB := List.mem_filter.mpr ⟨List.mem_append_right _ h, hk⟩
theorem xinS {w : Cond} (h : w ∈ lw_tbl) (hk : xwk w = true) : w ∈ xTAB := List.mem_filter.mpr ⟨h, hk⟩
def RLine : String := "PairedWords$Line"
def TLine : u_T := fun k => match k with
  | 0 => ("PairedWords$Line", "signs", "[I", true)
  | _ => ("PairedWords$Line", "size", "I", false)
theorem nmLine : ∀ a, a < 2 → ∀ b, b < 2 → a ≠ b → (TLine a).2.1 ≠ (TLine b).2.1 := by decide +kernel
theorem fdLine : ∀ k, k < 2 → ∃ t, parseFieldDescriptor (TLine k).2.2.1 = some t := fun k hk => Option.isSome_iff_exists.mp ((by decide +kernel : ∀ k, k < 2 → (parseFieldDescriptor (TLine k).2.2.1).isSome = true) k hk)
theorem lyLine : ∀ w ∈ u_ws RLine TLine 2, w ∈ xTAB := by
  have h : u_ws RLine TLine 2 = [123, 125].filterMap (fun i => tables_1[i]?) := by decide +kernel
  have hk : (u_ws RLine TLine 2).all xwk = true := by decide +kernel
  intro w hw
  have h2 := List.all_eq_true.mp hk w hw
  rw [h] at hw
  obtain ⟨i, -, hi⟩ := List.mem_filterMap.mp hw
  exact xin (List.mem_of_getElem? hi) h2
def RPairs : String := "PairedWords$Pairs"
def TPairs : u_T := fun k => match k with
  | 0 => ("PairedWords$Pairs", "lowers", "[I", true)
  | 1 => ("PairedWords$Pairs", "uppers", "[I", true)
  | _ => ("PairedWords$Pairs", "count", "I", false)
theorem nmPairs : ∀ a, a < 3 → ∀ b, b < 3 → a ≠ b → (TPairs a).2.1 ≠ (TPairs b).2.1 := by decide +kernel
theorem fdPairs : ∀ k, k < 3 → ∃ t, parseFieldDescriptor (TPairs k).2.2.1 = some t := fun k hk => Option.isSome_iff_exists.mp ((by decide +kernel : ∀ k, k < 3 → (parseFieldDescriptor (TPairs k).2.2.1).isSome = true) k hk)
theorem lyPairs : ∀ w ∈ u_ws RPairs TPairs 3, w ∈ xTAB := by
  have h : u_ws RPairs TPairs 3 = [37, 39, 41].filterMap (fun i => tables_1[i]?) := by decide +kernel
  have hk : (u_ws RPairs TPairs 3).all xwk = true := by decide +kernel
  intro w hw
  have h2 := List.all_eq_true.mp hk w hw
  rw [h] at hw
  obtain ⟨i, -, hi⟩ := List.mem_filterMap.mp hw
  exact xin (List.mem_of_getElem? hi) h2
def RPatt : String := "PairedWords$Patterns"
def TPatt : u_T := fun k => match k with
  | 0 => ("PairedWords$Patterns", "fromLeft", "Z", true)
  | 1 => ("PairedWords$Patterns", "sizes", "[I", true)
  | 2 => ("PairedWords$Patterns", "having", "[I", true)
  | 3 => ("PairedWords$Patterns", "starred", "I", false)
  | 4 => ("PairedWords$Patterns", "starts", "I", false)
  | _ => ("PairedWords$Patterns", "looseStarts", "I", false)
theorem nmPatt : ∀ a, a < 6 → ∀ b, b < 6 → a ≠ b → (TPatt a).2.1 ≠ (TPatt b).2.1 := by decide +kernel
theorem fdPatt : ∀ k, k < 6 → ∃ t, parseFieldDescriptor (TPatt k).2.2.1 = some t := fun k hk => Option.isSome_iff_exists.mp ((by decide +kernel : ∀ k, k < 6 → (parseFieldDescriptor (TPatt k).2.2.1).isSome = true) k hk)
theorem lyPatt : ∀ w ∈ u_ws RPatt TPatt 6, w ∈ xTAB := by
  have h : u_ws RPatt TPatt 6 = [63, 65, 67, 69, 71, 73].filterMap (fun i => tables_1[i]?) := by decide +kernel
  have hk : (u_ws RPatt TPatt 6).all xwk = true := by decide +kernel
  intro w hw
  have h2 := List.all_eq_true.mp hk w hw
  rw [h] at hw
  obtain ⟨i, -, hi⟩ := List.mem_filterMap.mp hw
  exact xin (List.mem_of_getElem? hi) h2
def RResu : String := "PairedWords$Results"
def TResu : u_T := fun k => match k with
  | 0 => ("PairedWords$Results", "keys", "[J", true)
  | 1 => ("PairedWords$Results", "count", "I", false)
  | _ => ("PairedWords$Results", "tooMany", "Z", false)
theorem nmResu : ∀ a, a < 3 → ∀ b, b < 3 → a ≠ b → (TResu a).2.1 ≠ (TResu b).2.1 := by decide +kernel
theorem fdResu : ∀ k, k < 3 → ∃ t, parseFieldDescriptor (TResu k).2.2.1 = some t := fun k hk => Option.isSome_iff_exists.mp ((by decide +kernel : ∀ k, k < 3 → (parseFieldDescriptor (TResu k).2.2.1).isSome = true) k hk)
theorem lyResu : ∀ w ∈ u_ws RResu TResu 3, w ∈ xTAB := by
  have h : u_ws RResu TResu 3 = [176, 178, 180].filterMap (fun i => tables_1[i]?) := by decide +kernel
  have hk : (u_ws RResu TResu 3).all xwk = true := by decide +kernel
  intro w hw
  have h2 := List.all_eq_true.mp hk w hw
  rw [h] at hw
  obtain ⟨i, -, hi⟩ := List.mem_filterMap.mp hw
  exact xin (List.mem_of_getElem? hi) h2
def RRule : String := "PairedWords$Rules"
def TRule : u_T := fun k => match k with
  | 0 => ("PairedWords$Rules", "before", "LPairedWords$Patterns;", true)
  | 1 => ("PairedWords$Rules", "behind", "LPairedWords$Patterns;", true)
  | 2 => ("PairedWords$Rules", "kinds", "[I", true)
  | 3 => ("PairedWords$Rules", "pairOf", "[I", true)
  | 4 => ("PairedWords$Rules", "contexts", "[I", true)
  | 5 => ("PairedWords$Rules", "goals", "[I", true)
  | 6 => ("PairedWords$Rules", "asking", "[I", true)
  | 7 => ("PairedWords$Rules", "barring", "[I", true)
  | _ => ("PairedWords$Rules", "count", "I", false)
theorem nmRule : ∀ a, a < 9 → ∀ b, b < 9 → a ≠ b → (TRule a).2.1 ≠ (TRule b).2.1 := by decide +kernel
theorem fdRule : ∀ k, k < 9 → ∃ t, parseFieldDescriptor (TRule k).2.2.1 = some t := fun k hk => Option.isSome_iff_exists.mp ((by decide +kernel : ∀ k, k < 9 → (parseFieldDescriptor (TRule k).2.2.1).isSome = true) k hk)
theorem lyRule : ∀ w ∈ u_ws RRule TRule 9, w ∈ xTAB := by
  have h : u_ws RRule TRule 9 = [89, 91, 93, 95, 97, 99, 101, 103, 105].filterMap (fun i => tables_1[i]?) := by decide +kernel
  have hk : (u_ws RRule TRule 9).all xwk = true := by decide +kernel
  intro w hw
  have h2 := List.all_eq_true.mp hk w hw
  rw [h] at hw
  obtain ⟨i, -, hi⟩ := List.mem_filterMap.mp hw
  exact xin (List.mem_of_getElem? hi) h2
def RSamp : String := "PairedWords$Samples"
def TSamp : u_T := fun k => match k with
  | 0 => ("PairedWords$Samples", "lowers", "[LPairedWords$Line;", true)
  | 1 => ("PairedWords$Samples", "uppers", "[LPairedWords$Line;", true)
  | _ => ("PairedWords$Samples", "count", "I", false)
theorem nmSamp : ∀ a, a < 3 → ∀ b, b < 3 → a ≠ b → (TSamp a).2.1 ≠ (TSamp b).2.1 := by decide +kernel
theorem fdSamp : ∀ k, k < 3 → ∃ t, parseFieldDescriptor (TSamp k).2.2.1 = some t := fun k hk => Option.isSome_iff_exists.mp ((by decide +kernel : ∀ k, k < 3 → (parseFieldDescriptor (TSamp k).2.2.1).isSome = true) k hk)
theorem lySamp : ∀ w ∈ u_ws RSamp TSamp 3, w ∈ xTAB := by
  have h : u_ws RSamp TSamp 3 = [160, 162, 164].filterMap (fun i => tables_1[i]?) := by decide +kernel
  have hk : (u_ws RSamp TSamp 3).all xwk = true := by decide +kernel
  intro w hw
  have h2 := List.all_eq_true.mp hk w hw
  rw [h] at hw
  obtain ⟨i, -, hi⟩ := List.mem_filterMap.mp hw
  exact xin (List.mem_of_getElem? hi) h2
def RComp : String := "PairedWords$Comparison"
def TComp : u_T := fun k => match k with
  | 0 => ("PairedWords$Search", "pairs", "LPairedWords$Pairs;", true)
  | 1 => ("PairedWords$Search", "rules", "LPairedWords$Rules;", true)
  | 2 => ("PairedWords$Search", "lower", "LPairedWords$Line;", true)
  | 3 => ("PairedWords$Search", "row", "[I", true)
  | 4 => ("PairedWords$Search", "before", "[I", true)
  | 5 => ("PairedWords$Comparison", "upper", "LPairedWords$Line;", true)
  | 6 => ("PairedWords$Comparison", "any", "Z", false)
  | 7 => ("PairedWords$Comparison", "kept", "Z", false)
  | _ => ("PairedWords$Comparison", "brokenByAll", "I", false)
theorem nmComp : ∀ a, a < 9 → ∀ b, b < 9 → a ≠ b → (TComp a).2.1 ≠ (TComp b).2.1 := by decide +kernel
theorem fdComp : ∀ k, k < 9 → ∃ t, parseFieldDescriptor (TComp k).2.2.1 = some t := fun k hk => Option.isSome_iff_exists.mp ((by decide +kernel : ∀ k, k < 9 → (parseFieldDescriptor (TComp k).2.2.1).isSome = true) k hk)
theorem lyComp : ∀ w ∈ u_ws RComp TComp 9, w ∈ xTAB := by
  have h : u_ws RComp TComp 9 = [214, 216, 218, 220, 222, 206, 208, 210, 212].filterMap (fun i => tables_1[i]?) := by decide +kernel
  have hk : (u_ws RComp TComp 9).all xwk = true := by decide +kernel
  intro w hw
  have h2 := List.all_eq_true.mp hk w hw
  rw [h] at hw
  obtain ⟨i, -, hi⟩ := List.mem_filterMap.mp hw
  exact xin (List.mem_of_getElem? hi) h2
def RWrit : String := "PairedWords$Writing"
def TWrit : u_T := fun k => match k with
  | 0 => ("PairedWords$Search", "pairs", "LPairedWords$Pairs;", true)
  | 1 => ("PairedWords$Search", "rules", "LPairedWords$Rules;", true)
  | 2 => ("PairedWords$Search", "lower", "LPairedWords$Line;", true)
  | 3 => ("PairedWords$Search", "row", "[I", true)
  | 4 => ("PairedWords$Search", "before", "[I", true)
  | 5 => ("PairedWords$Writing", "upper", "LPairedWords$Line;", true)
  | _ => ("PairedWords$Writing", "forms", "LPairedWords$Results;", true)
theorem nmWrit : ∀ a, a < 7 → ∀ b, b < 7 → a ≠ b → (TWrit a).2.1 ≠ (TWrit b).2.1 := by decide +kernel
theorem fdWrit : ∀ k, k < 7 → ∃ t, parseFieldDescriptor (TWrit k).2.2.1 = some t := fun k hk => Option.isSome_iff_exists.mp ((by decide +kernel : ∀ k, k < 7 → (parseFieldDescriptor (TWrit k).2.2.1).isSome = true) k hk)
theorem lyWrit : ∀ w ∈ u_ws RWrit TWrit 7, w ∈ xTAB := by
  have h : u_ws RWrit TWrit 7 = [239, 240, 241, 242, 243, 235, 237].filterMap (fun i => tables_1[i]?) := by decide +kernel
  have hk : (u_ws RWrit TWrit 7).all xwk = true := by decide +kernel
  intro w hw
  have h2 := List.all_eq_true.mp hk w hw
  rw [h] at hw
  obtain ⟨i, -, hi⟩ := List.mem_filterMap.mp hw
  exact xin (List.mem_of_getElem? hi) h2
def RLexi : String := "PairedWords$Lexicon"
def TLexi : u_T := fun k => match k with
  | 0 => ("PairedWords$Lexicon", "parts", "[I", true)
  | 1 => ("PairedWords$Lexicon", "nexts", "[I", true)
  | 2 => ("PairedWords$Lexicon", "signs", "[LPairedWords$Line;", true)
  | 3 => ("PairedWords$Lexicon", "word", "[I", true)
  | 4 => ("PairedWords$Lexicon", "wordSigns", "LPairedWords$Line;", true)
  | _ => ("PairedWords$Lexicon", "count", "I", false)
theorem nmLexi : ∀ a, a < 6 → ∀ b, b < 6 → a ≠ b → (TLexi a).2.1 ≠ (TLexi b).2.1 := by decide +kernel
theorem fdLexi : ∀ k, k < 6 → ∃ t, parseFieldDescriptor (TLexi k).2.2.1 = some t := fun k hk => Option.isSome_iff_exists.mp ((by decide +kernel : ∀ k, k < 6 → (parseFieldDescriptor (TLexi k).2.2.1).isSome = true) k hk)
theorem lyLexi : ∀ w ∈ u_ws RLexi TLexi 6, w ∈ xTAB := by
  have h : u_ws RLexi TLexi 6 = [134, 136, 138, 140, 142, 144].filterMap (fun i => tables_1[i]?) := by decide +kernel
  have hk : (u_ws RLexi TLexi 6).all xwk = true := by decide +kernel
  intro w hw
  have h2 := List.all_eq_true.mp hk w hw
  rw [h] at hw
  obtain ⟨i, -, hi⟩ := List.mem_filterMap.mp hw
  exact xin (List.mem_of_getElem? hi) h2
def RPW : String := "PairedWords"
def TPW : u_T := fun k => match k with
  | 0 => ("PairedWords", "pairs", "LPairedWords$Pairs;", true)
  | 1 => ("PairedWords", "rules", "LPairedWords$Rules;", true)
  | 2 => ("PairedWords", "lexicon", "LPairedWords$Lexicon;", true)
  | 3 => ("PairedWords", "lowerLine", "LPairedWords$Line;", true)
  | 4 => ("PairedWords", "upperLine", "LPairedWords$Line;", true)
  | 5 => ("PairedWords", "samples", "LPairedWords$Samples;", true)
  | 6 => ("PairedWords", "results", "LPairedWords$Results;", true)
  | 7 => ("PairedWords", "gathered", "LPairedWords$Results;", true)
  | 8 => ("PairedWords", "comparison", "LPairedWords$Comparison;", true)
  | _ => ("PairedWords", "writing", "LPairedWords$Writing;", true)
theorem nmPW : ∀ a, a < 10 → ∀ b, b < 10 → a ≠ b → (TPW a).2.1 ≠ (TPW b).2.1 := by decide +kernel
theorem fdPW : ∀ k, k < 10 → ∃ t, parseFieldDescriptor (TPW k).2.2.1 = some t := fun k hk => Option.isSome_iff_exists.mp ((by decide +kernel : ∀ k, k < 10 → (parseFieldDescriptor (TPW k).2.2.1).isSome = true) k hk)
theorem lyPW : ∀ w ∈ u_ws RPW TPW 10, w ∈ xTAB := by
  have h : u_ws RPW TPW 10 = [255, 257, 259, 261, 263, 265, 267, 269, 271, 273].filterMap (fun i => tables_1[i]?) := by decide +kernel
  have hk : (u_ws RPW TPW 10).all xwk = true := by decide +kernel
  intro w hw
  have h2 := List.all_eq_true.mp hk w hw
  rw [h] at hw
  obtain ⟨i, -, hi⟩ := List.mem_filterMap.mp hw
  exact xin (List.mem_of_getElem? hi) h2
def RMod : String := "PairedWordsModel"
def TMod : u_T := fun k => match k with
  | 0 => ("PairedWordsModel", "thrown", "I", false)
  | 1 => ("PairedWordsModel", "pairs", "I", false)
  | 2 => ("PairedWordsModel", "lowers", "[I", false)
  | 3 => ("PairedWordsModel", "uppers", "[I", false)
  | 4 => ("PairedWordsModel", "rules", "I", false)
  | 5 => ("PairedWordsModel", "kinds", "[I", false)
  | 6 => ("PairedWordsModel", "rulePairs", "[I", false)
  | 7 => ("PairedWordsModel", "contexts", "[I", false)
  | 8 => ("PairedWordsModel", "tight", "[Z", false)
  | 9 => ("PairedWordsModel", "elements", "[I", false)
  | 10 => ("PairedWordsModel", "sets", "[I", false)
  | 11 => ("PairedWordsModel", "starred", "[Z", false)
  | 12 => ("PairedWordsModel", "entries", "I", false)
  | 13 => ("PairedWordsModel", "parts", "[I", false)
  | 14 => ("PairedWordsModel", "nexts", "[I", false)
  | 15 => ("PairedWordsModel", "spelled", "[I", false)
  | 16 => ("PairedWordsModel", "signs", "[I", false)
  | 17 => ("PairedWordsModel", "sizes", "[I", false)
  | 18 => ("PairedWordsModel", "lines", "[I", false)
  | 19 => ("PairedWordsModel", "results", "I", false)
  | 20 => ("PairedWordsModel", "resultSize", "[I", false)
  | 21 => ("PairedWordsModel", "resultSigns", "[I", false)
  | 22 => ("PairedWordsModel", "resultCount", "[I", false)
  | 23 => ("PairedWordsModel", "resultEntries", "[I", false)
  | 24 => ("PairedWordsModel", "found", "I", false)
  | 25 => ("PairedWordsModel", "foundSize", "[I", false)
  | 26 => ("PairedWordsModel", "foundSigns", "[I", false)
  | 27 => ("PairedWordsModel", "foundCount", "[I", false)
  | 28 => ("PairedWordsModel", "foundEntries", "[I", false)
  | 29 => ("PairedWordsModel", "samples", "I", false)
  | 30 => ("PairedWordsModel", "sampleSize", "[I", false)
  | 31 => ("PairedWordsModel", "sampleLines", "[I", false)
  | 32 => ("PairedWordsModel", "lowerSize", "I", false)
  | 33 => ("PairedWordsModel", "lower", "[I", false)
  | 34 => ("PairedWordsModel", "upperSize", "I", false)
  | 35 => ("PairedWordsModel", "upper", "[I", false)
  | 36 => ("PairedWordsModel", "length", "I", false)
  | 37 => ("PairedWordsModel", "row", "[I", false)
  | 38 => ("PairedWordsModel", "tried", "[I", false)
  | 39 => ("PairedWordsModel", "usedLower", "[I", false)
  | 40 => ("PairedWordsModel", "usedUpper", "[I", false)
  | _ => ("PairedWordsModel", "word", "[I", false)
theorem nmMod : ∀ a, a < 42 → ∀ b, b < 42 → a ≠ b → (TMod a).2.1 ≠ (TMod b).2.1 := by decide +kernel
theorem fdMod : ∀ k, k < 42 → ∃ t, parseFieldDescriptor (TMod k).2.2.1 = some t := fun k hk => Option.isSome_iff_exists.mp ((by decide +kernel : ∀ k, k < 42 → (parseFieldDescriptor (TMod k).2.2.1).isSome = true) k hk)
theorem lyMod : ∀ w ∈ u_ws RMod TMod 42, w ∈ xTAB := by
  have h : u_ws RMod TMod 42 = [866, 868, 870, 872, 874, 876, 878, 880, 882, 884, 886, 888, 890, 892, 894, 896, 898, 900, 902, 904, 906, 908, 910, 912, 914, 916, 918, 920, 922, 924, 926, 928, 930, 932, 934, 936, 938, 940, 942, 944, 946, 948].filterMap (fun i => tables_1[i]?) := by decide +kernel
  have hk : (u_ws RMod TMod 42).all xwk = true := by decide +kernel
  intro w hw
  have h2 := List.all_eq_true.mp hk w hw
  rw [h] at hw
  obtain ⟨i, -, hi⟩ := List.mem_filterMap.mp hw
  exact xin (List.mem_of_getElem? hi) h2
abbrev xcl : List vw_C := [(RLine, TLine, 2), (RPairs, TPairs, 3), (RPatt, TPatt, 6), (RResu, TResu, 3), (RRule, TRule, 9), (RSamp, TSamp, 3), (RComp, TComp, 9), (RWrit, TWrit, 7), (RLexi, TLexi, 6), (RPW, TPW, 10), (RMod, TMod, 42)]
/-! the methods: name, code, locals, answer, handlers -/
abbrev bPW_init : ByteArray := prog_1_method_1_code
def yPW_init : MethodName := ⟨"PairedWords", "<init>", "()V"⟩
abbrev mPW_init : MethodName × ByteArray × Nat × Option FieldType × List (Nat × Nat × Nat × Nat) := (yPW_init, bPW_init, 1, (Option.none : Option Jvm.ClassFile.FieldType), [])
abbrev bPW_pair : ByteArray := prog_1_method_2_code
def yPW_pair : MethodName := ⟨"PairedWords", "pair", "(II)I"⟩
abbrev mPW_pair : MethodName × ByteArray × Nat × Option FieldType × List (Nat × Nat × Nat × Nat) := (yPW_pair, bPW_pair, 4, (Option.some Jvm.ClassFile.FieldType.int), [])
abbrev bPW_rule : ByteArray := prog_1_method_3_code
def yPW_rule : MethodName := ⟨"PairedWords", "rule", "(II)I"⟩
abbrev mPW_rule : MethodName × ByteArray × Nat × Option FieldType × List (Nat × Nat × Nat × Nat) := (yPW_rule, bPW_rule, 4, (Option.some Jvm.ClassFile.FieldType.int), [])
abbrev bPW_context : ByteArray := prog_1_method_4_code
def yPW_context : MethodName := ⟨"PairedWords", "context", "(IZZ)I"⟩
abbrev mPW_context : MethodName × ByteArray × Nat × Option FieldType × List (Nat × Nat × Nat × Nat) := (yPW_context, bPW_context, 4, (Option.some Jvm.ClassFile.FieldType.int), [])
abbrev bPW_element : ByteArray := prog_1_method_5_code
def yPW_element : MethodName := ⟨"PairedWords", "element", "(IZIZ)I"⟩
abbrev mPW_element : MethodName × ByteArray × Nat × Option FieldType × List (Nat × Nat × Nat × Nat) := (yPW_element, bPW_element, 7, (Option.some Jvm.ClassFile.FieldType.int), [])
abbrev bPW_entry : ByteArray := prog_1_method_6_code
def yPW_entry : MethodName := ⟨"PairedWords", "entry", "(II)I"⟩
abbrev mPW_entry : MethodName × ByteArray × Nat × Option FieldType × List (Nat × Nat × Nat × Nat) := (yPW_entry, bPW_entry, 3, (Option.some Jvm.ClassFile.FieldType.int), [])
abbrev bPW_spell : ByteArray := prog_1_method_7_code
def yPW_spell : MethodName := ⟨"PairedWords", "spell", "(II)I"⟩
abbrev mPW_spell : MethodName × ByteArray × Nat × Option FieldType × List (Nat × Nat × Nat × Nat) := (yPW_spell, bPW_spell, 4, (Option.some Jvm.ClassFile.FieldType.int), [])
abbrev bPW_type : ByteArray := prog_1_method_8_code
def yPW_type : MethodName := ⟨"PairedWords", "type", "(ZI)I"⟩
abbrev mPW_type : MethodName × ByteArray × Nat × Option FieldType × List (Nat × Nat × Nat × Nat) := (yPW_type, bPW_type, 4, (Option.some Jvm.ClassFile.FieldType.int), [])
abbrev bPW_wipe : ByteArray := prog_1_method_9_code
def yPW_wipe : MethodName := ⟨"PairedWords", "wipe", "(Z)I"⟩
abbrev mPW_wipe : MethodName × ByteArray × Nat × Option FieldType × List (Nat × Nat × Nat × Nat) := (yPW_wipe, bPW_wipe, 4, (Option.some Jvm.ClassFile.FieldType.int), [])
abbrev bPW_belong : ByteArray := prog_1_method_10_code
def yPW_belong : MethodName := ⟨"PairedWords", "belong", "()Z"⟩
abbrev mPW_belong : MethodName × ByteArray × Nat × Option FieldType × List (Nat × Nat × Nat × Nat) := (yPW_belong, bPW_belong, 1, (Option.some Jvm.ClassFile.FieldType.boolean), [])
abbrev bPW_blame : ByteArray := prog_1_method_11_code
def yPW_blame : MethodName := ⟨"PairedWords", "blame", "()I"⟩
abbrev mPW_blame : MethodName × ByteArray × Nat × Option FieldType × List (Nat × Nat × Nat × Nat) := (yPW_blame, bPW_blame, 1, (Option.some Jvm.ClassFile.FieldType.int), [])
abbrev bPW_write : ByteArray := prog_1_method_12_code
def yPW_write : MethodName := ⟨"PairedWords", "write", "()I"⟩
abbrev mPW_write : MethodName × ByteArray × Nat × Option FieldType × List (Nat × Nat × Nat × Nat) := (yPW_write, bPW_write, 1, (Option.some Jvm.ClassFile.FieldType.int), [])
abbrev bPW_analyse : ByteArray := prog_1_method_13_code
def yPW_analyse : MethodName := ⟨"PairedWords", "analyse", "()I"⟩
abbrev mPW_analyse : MethodName × ByteArray × Nat × Option FieldType × List (Nat × Nat × Nat × Nat) := (yPW_analyse, bPW_analyse, 1, (Option.some Jvm.ClassFile.FieldType.int), [])
abbrev bPW_length : ByteArray := prog_1_method_14_code
def yPW_length : MethodName := ⟨"PairedWords", "length", "(IZ)I"⟩
abbrev mPW_length : MethodName × ByteArray × Nat × Option FieldType × List (Nat × Nat × Nat × Nat) := (yPW_length, bPW_length, 3, (Option.some Jvm.ClassFile.FieldType.int), [])
abbrev bPW_result : ByteArray := prog_1_method_15_code
def yPW_result : MethodName := ⟨"PairedWords", "result", "(IIZ)I"⟩
abbrev mPW_result : MethodName × ByteArray × Nat × Option FieldType × List (Nat × Nat × Nat × Nat) := (yPW_result, bPW_result, 5, (Option.some Jvm.ClassFile.FieldType.int), [])
abbrev bPW_sample : ByteArray := prog_1_method_16_code
def yPW_sample : MethodName := ⟨"PairedWords", "sample", "()I"⟩
abbrev mPW_sample : MethodName × ByteArray × Nat × Option FieldType × List (Nat × Nat × Nat × Nat) := (yPW_sample, bPW_sample, 1, (Option.some Jvm.ClassFile.FieldType.int), [])
abbrev bPW_check : ByteArray := prog_1_method_17_code
def yPW_check : MethodName := ⟨"PairedWords", "check", "()I"⟩
abbrev mPW_check : MethodName × ByteArray × Nat × Option FieldType × List (Nat × Nat × Nat × Nat) := (yPW_check, bPW_check, 2, (Option.some Jvm.ClassFile.FieldType.int), [])
abbrev bPW_isSign : ByteArray := prog_1_method_18_code
def yPW_isSign : MethodName := ⟨"PairedWords", "isSign", "(I)Z"⟩
abbrev mPW_isSign : MethodName × ByteArray × Nat × Option FieldType × List (Nat × Nat × Nat × Nat) := (yPW_isSign, bPW_isSign, 1, (Option.some Jvm.ClassFile.FieldType.boolean), [])
abbrev bPW_isSignOrEmpty : ByteArray := prog_1_method_19_code
def yPW_isSignOrEmpty : MethodName := ⟨"PairedWords", "isSignOrEmpty", "(I)Z"⟩
abbrev mPW_isSignOrEmpty : MethodName × ByteArray × Nat × Option FieldType × List (Nat × Nat × Nat × Nat) := (yPW_isSignOrEmpty, bPW_isSignOrEmpty, 1, (Option.some Jvm.ClassFile.FieldType.boolean), [])
abbrev bPW_isPart : ByteArray := prog_1_method_20_code
def yPW_isPart : MethodName := ⟨"PairedWords", "isPart", "(I)Z"⟩
abbrev mPW_isPart : MethodName × ByteArray × Nat × Option FieldType × List (Nat × Nat × Nat × Nat) := (yPW_isPart, bPW_isPart, 1, (Option.some Jvm.ClassFile.FieldType.boolean), [])
abbrev bMod_init : ByteArray := prog_13_method_1_code
def yMod_init : MethodName := ⟨"PairedWordsModel", "<init>", "()V"⟩
abbrev mMod_init : MethodName × ByteArray × Nat × Option FieldType × List (Nat × Nat × Nat × Nat) := (yMod_init, bMod_init, 1, (Option.none : Option Jvm.ClassFile.FieldType), [])
abbrev bMod_thrown : ByteArray := prog_13_method_2_code
def yMod_thrown : MethodName := ⟨"PairedWordsModel", "thrown", "()I"⟩
abbrev mMod_thrown : MethodName × ByteArray × Nat × Option FieldType × List (Nat × Nat × Nat × Nat) := (yMod_thrown, bMod_thrown, 1, (Option.some Jvm.ClassFile.FieldType.int), [])
abbrev bMod_noSign : ByteArray := prog_13_method_3_code
def yMod_noSign : MethodName := ⟨"PairedWordsModel", "noSign", "(II)Z"⟩
abbrev mMod_noSign : MethodName × ByteArray × Nat × Option FieldType × List (Nat × Nat × Nat × Nat) := (yMod_noSign, bMod_noSign, 3, (Option.some Jvm.ClassFile.FieldType.boolean), [])
abbrev bMod_pair : ByteArray := prog_13_method_4_code
def yMod_pair : MethodName := ⟨"PairedWordsModel", "pair", "(II)I"⟩
abbrev mMod_pair : MethodName × ByteArray × Nat × Option FieldType × List (Nat × Nat × Nat × Nat) := (yMod_pair, bMod_pair, 6, (Option.some Jvm.ClassFile.FieldType.int), [])
abbrev bMod_rule : ByteArray := prog_13_method_5_code
def yMod_rule : MethodName := ⟨"PairedWordsModel", "rule", "(II)I"⟩
abbrev mMod_rule : MethodName × ByteArray × Nat × Option FieldType × List (Nat × Nat × Nat × Nat) := (yMod_rule, bMod_rule, 3, (Option.some Jvm.ClassFile.FieldType.int), [])
abbrev bMod_noRule : ByteArray := prog_13_method_6_code
def yMod_noRule : MethodName := ⟨"PairedWordsModel", "noRule", "(I)Z"⟩
abbrev mMod_noRule : MethodName × ByteArray × Nat × Option FieldType × List (Nat × Nat × Nat × Nat) := (yMod_noRule, bMod_noRule, 2, (Option.some Jvm.ClassFile.FieldType.boolean), [])
abbrev bMod_context : ByteArray := prog_13_method_7_code
def yMod_context : MethodName := ⟨"PairedWordsModel", "context", "(IZZ)I"⟩
abbrev mMod_context : MethodName × ByteArray × Nat × Option FieldType × List (Nat × Nat × Nat × Nat) := (yMod_context, bMod_context, 5, (Option.some Jvm.ClassFile.FieldType.int), [])
abbrev bMod_element : ByteArray := prog_13_method_8_code
def yMod_element : MethodName := ⟨"PairedWordsModel", "element", "(IZIZ)I"⟩
abbrev mMod_element : MethodName × ByteArray × Nat × Option FieldType × List (Nat × Nat × Nat × Nat) := (yMod_element, bMod_element, 7, (Option.some Jvm.ClassFile.FieldType.int), [])
abbrev bMod_entry : ByteArray := prog_13_method_9_code
def yMod_entry : MethodName := ⟨"PairedWordsModel", "entry", "(II)I"⟩
abbrev mMod_entry : MethodName × ByteArray × Nat × Option FieldType × List (Nat × Nat × Nat × Nat) := (yMod_entry, bMod_entry, 3, (Option.some Jvm.ClassFile.FieldType.int), [])
abbrev bMod_spell : ByteArray := prog_13_method_10_code
def yMod_spell : MethodName := ⟨"PairedWordsModel", "spell", "(II)I"⟩
abbrev mMod_spell : MethodName × ByteArray × Nat × Option FieldType × List (Nat × Nat × Nat × Nat) := (yMod_spell, bMod_spell, 3, (Option.some Jvm.ClassFile.FieldType.int), [])
abbrev bMod_type : ByteArray := prog_13_method_11_code
def yMod_type : MethodName := ⟨"PairedWordsModel", "type", "(ZI)I"⟩
abbrev mMod_type : MethodName × ByteArray × Nat × Option FieldType × List (Nat × Nat × Nat × Nat) := (yMod_type, bMod_type, 4, (Option.some Jvm.ClassFile.FieldType.int), [])
abbrev bMod_wipe : ByteArray := prog_13_method_12_code
def yMod_wipe : MethodName := ⟨"PairedWordsModel", "wipe", "(Z)I"⟩
abbrev mMod_wipe : MethodName × ByteArray × Nat × Option FieldType × List (Nat × Nat × Nat × Nat) := (yMod_wipe, bMod_wipe, 3, (Option.some Jvm.ClassFile.FieldType.int), [])
abbrev bMod_inSet : ByteArray := prog_13_method_13_code
def yMod_inSet : MethodName := ⟨"PairedWordsModel", "inSet", "(II)Z"⟩
abbrev mMod_inSet : MethodName × ByteArray × Nat × Option FieldType × List (Nat × Nat × Nat × Nat) := (yMod_inSet, bMod_inSet, 3, (Option.some Jvm.ClassFile.FieldType.boolean), [])
abbrev bMod_allIn : ByteArray := prog_13_method_14_code
def yMod_allIn : MethodName := ⟨"PairedWordsModel", "allIn", "(III)Z"⟩
abbrev mMod_allIn : MethodName × ByteArray × Nat × Option FieldType × List (Nat × Nat × Nat × Nat) := (yMod_allIn, bMod_allIn, 6, (Option.some Jvm.ClassFile.FieldType.boolean), [])
abbrev bMod_isPart : ByteArray := prog_13_method_15_code
def yMod_isPart : MethodName := ⟨"PairedWordsModel", "isPart", "(III)Z"⟩
abbrev mMod_isPart : MethodName × ByteArray × Nat × Option FieldType × List (Nat × Nat × Nat × Nat) := (yMod_isPart, bMod_isPart, 4, (Option.some Jvm.ClassFile.FieldType.boolean), [])
abbrev bMod_isMatched : ByteArray := prog_13_method_16_code
def yMod_isMatched : MethodName := ⟨"PairedWordsModel", "isMatched", "(III)Z"⟩
abbrev mMod_isMatched : MethodName × ByteArray × Nat × Option FieldType × List (Nat × Nat × Nat × Nat) := (yMod_isMatched, bMod_isMatched, 6, (Option.some Jvm.ClassFile.FieldType.boolean), [])
abbrev bMod_holds : ByteArray := prog_13_method_17_code
def yMod_holds : MethodName := ⟨"PairedWordsModel", "holds", "(II)Z"⟩
abbrev mMod_holds : MethodName × ByteArray × Nat × Option FieldType × List (Nat × Nat × Nat × Nat) := (yMod_holds, bMod_holds, 6, (Option.some Jvm.ClassFile.FieldType.boolean), [])
abbrev bMod_isKept : ByteArray := prog_13_method_18_code
def yMod_isKept : MethodName := ⟨"PairedWordsModel", "isKept", "(I)Z"⟩
abbrev mMod_isKept : MethodName × ByteArray × Nat × Option FieldType × List (Nat × Nat × Nat × Nat) := (yMod_isKept, bMod_isKept, 7, (Option.some Jvm.ClassFile.FieldType.boolean), [])
abbrev bMod_keepsAll : ByteArray := prog_13_method_19_code
def yMod_keepsAll : MethodName := ⟨"PairedWordsModel", "keepsAll", "()Z"⟩
abbrev mMod_keepsAll : MethodName × ByteArray × Nat × Option FieldType × List (Nat × Nat × Nat × Nat) := (yMod_keepsAll, bMod_keepsAll, 3, (Option.some Jvm.ClassFile.FieldType.boolean), [])
abbrev bMod_begin : ByteArray := prog_13_method_20_code
def yMod_begin : MethodName := ⟨"PairedWordsModel", "begin", "()V"⟩
abbrev mMod_begin : MethodName × ByteArray × Nat × Option FieldType × List (Nat × Nat × Nat × Nat) := (yMod_begin, bMod_begin, 1, (Option.none : Option Jvm.ClassFile.FieldType), [])
abbrev bMod_mayCome : ByteArray := prog_13_method_21_code
def yMod_mayCome : MethodName := ⟨"PairedWordsModel", "mayCome", "(IZ)Z"⟩
abbrev mMod_mayCome : MethodName × ByteArray × Nat × Option FieldType × List (Nat × Nat × Nat × Nat) := (yMod_mayCome, bMod_mayCome, 6, (Option.some Jvm.ClassFile.FieldType.boolean), [])
abbrev bMod_nextAlignment : ByteArray := prog_13_method_22_code
def yMod_nextAlignment : MethodName := ⟨"PairedWordsModel", "nextAlignment", "(Z)Z"⟩
abbrev mMod_nextAlignment : MethodName × ByteArray × Nat × Option FieldType × List (Nat × Nat × Nat × Nat) := (yMod_nextAlignment, bMod_nextAlignment, 3, (Option.some Jvm.ClassFile.FieldType.boolean), [])
abbrev bMod_take : ByteArray := prog_13_method_23_code
def yMod_take : MethodName := ⟨"PairedWordsModel", "take", "([IIIII)V"⟩
abbrev mMod_take : MethodName × ByteArray × Nat × Option FieldType × List (Nat × Nat × Nat × Nat) := (yMod_take, bMod_take, 7, (Option.none : Option Jvm.ClassFile.FieldType), [])
abbrev bMod_doBelong : ByteArray := prog_13_method_24_code
def yMod_doBelong : MethodName := ⟨"PairedWordsModel", "doBelong", "()Z"⟩
abbrev mMod_doBelong : MethodName × ByteArray × Nat × Option FieldType × List (Nat × Nat × Nat × Nat) := (yMod_doBelong, bMod_doBelong, 1, (Option.some Jvm.ClassFile.FieldType.boolean), [])
abbrev bMod_belong : ByteArray := prog_13_method_25_code
def yMod_belong : MethodName := ⟨"PairedWordsModel", "belong", "()Z"⟩
abbrev mMod_belong : MethodName × ByteArray × Nat × Option FieldType × List (Nat × Nat × Nat × Nat) := (yMod_belong, bMod_belong, 1, (Option.some Jvm.ClassFile.FieldType.boolean), [])
abbrev bMod_blame : ByteArray := prog_13_method_26_code
def yMod_blame : MethodName := ⟨"PairedWordsModel", "blame", "()I"⟩
abbrev mMod_blame : MethodName × ByteArray × Nat × Option FieldType × List (Nat × Nat × Nat × Nat) := (yMod_blame, bMod_blame, 4, (Option.some Jvm.ClassFile.FieldType.int), [])
abbrev bMod_order : ByteArray := prog_13_method_27_code
def yMod_order : MethodName := ⟨"PairedWordsModel", "order", "(II)I"⟩
abbrev mMod_order : MethodName × ByteArray × Nat × Option FieldType × List (Nat × Nat × Nat × Nat) := (yMod_order, bMod_order, 4, (Option.some Jvm.ClassFile.FieldType.int), [])
abbrev bMod_put : ByteArray := prog_13_method_28_code
def yMod_put : MethodName := ⟨"PairedWordsModel", "put", "()Z"⟩
abbrev mMod_put : MethodName × ByteArray × Nat × Option FieldType × List (Nat × Nat × Nat × Nat) := (yMod_put, bMod_put, 7, (Option.some Jvm.ClassFile.FieldType.boolean), [])
abbrev bMod_finish : ByteArray := prog_13_method_29_code
def yMod_finish : MethodName := ⟨"PairedWordsModel", "finish", "()I"⟩
abbrev mMod_finish : MethodName × ByteArray × Nat × Option FieldType × List (Nat × Nat × Nat × Nat) := (yMod_finish, bMod_finish, 2, (Option.some Jvm.ClassFile.FieldType.int), [])
abbrev bMod_write : ByteArray := prog_13_method_30_code
def yMod_write : MethodName := ⟨"PairedWordsModel", "write", "()I"⟩
abbrev mMod_write : MethodName × ByteArray × Nat × Option FieldType × List (Nat × Nat × Nat × Nat) := (yMod_write, bMod_write, 5, (Option.some Jvm.ClassFile.FieldType.int), [])
abbrev bMod_isFound : ByteArray := prog_13_method_31_code
def yMod_isFound : MethodName := ⟨"PairedWordsModel", "isFound", "(I)Z"⟩
abbrev mMod_isFound : MethodName × ByteArray × Nat × Option FieldType × List (Nat × Nat × Nat × Nat) := (yMod_isFound, bMod_isFound, 9, (Option.some Jvm.ClassFile.FieldType.boolean), [])
abbrev bMod_analyse : ByteArray := prog_13_method_32_code
def yMod_analyse : MethodName := ⟨"PairedWordsModel", "analyse", "()I"⟩
abbrev mMod_analyse : MethodName × ByteArray × Nat × Option FieldType × List (Nat × Nat × Nat × Nat) := (yMod_analyse, bMod_analyse, 6, (Option.some Jvm.ClassFile.FieldType.int), [])
abbrev bMod_length : ByteArray := prog_13_method_33_code
def yMod_length : MethodName := ⟨"PairedWordsModel", "length", "(IZ)I"⟩
abbrev mMod_length : MethodName × ByteArray × Nat × Option FieldType × List (Nat × Nat × Nat × Nat) := (yMod_length, bMod_length, 3, (Option.some Jvm.ClassFile.FieldType.int), [])
abbrev bMod_result : ByteArray := prog_13_method_34_code
def yMod_result : MethodName := ⟨"PairedWordsModel", "result", "(IIZ)I"⟩
abbrev mMod_result : MethodName × ByteArray × Nat × Option FieldType × List (Nat × Nat × Nat × Nat) := (yMod_result, bMod_result, 6, (Option.some Jvm.ClassFile.FieldType.int), [])
abbrev bMod_sample : ByteArray := prog_13_method_35_code
def yMod_sample : MethodName := ⟨"PairedWordsModel", "sample", "()I"⟩
abbrev mMod_sample : MethodName × ByteArray × Nat × Option FieldType × List (Nat × Nat × Nat × Nat) := (yMod_sample, bMod_sample, 2, (Option.some Jvm.ClassFile.FieldType.int), [])
abbrev bMod_check : ByteArray := prog_13_method_36_code
def yMod_check : MethodName := ⟨"PairedWordsModel", "check", "()I"⟩
abbrev mMod_check : MethodName × ByteArray × Nat × Option FieldType × List (Nat × Nat × Nat × Nat) := (yMod_check, bMod_check, 2, (Option.some Jvm.ClassFile.FieldType.int), [])
abbrev bComp_init : ByteArray := prog_2_method_1_code
def yComp_init : MethodName := ⟨"PairedWords$Comparison", "<init>", "(LPairedWords$Pairs;LPairedWords$Rules;)V"⟩
abbrev mComp_init : MethodName × ByteArray × Nat × Option FieldType × List (Nat × Nat × Nat × Nat) := (yComp_init, bComp_init, 3, (Option.none : Option Jvm.ClassFile.FieldType), [])
abbrev bComp_finds : ByteArray := prog_2_method_2_code
def yComp_finds : MethodName := ⟨"PairedWords$Comparison", "finds", "(LPairedWords$Line;LPairedWords$Line;)Z"⟩
abbrev mComp_finds : MethodName × ByteArray × Nat × Option FieldType × List (Nat × Nat × Nat × Nat) := (yComp_finds, bComp_finds, 3, (Option.some Jvm.ClassFile.FieldType.boolean), [])
abbrev bComp_culprit : ByteArray := prog_2_method_3_code
def yComp_culprit : MethodName := ⟨"PairedWords$Comparison", "culprit", "()I"⟩
abbrev mComp_culprit : MethodName × ByteArray × Nat × Option FieldType × List (Nat × Nat × Nat × Nat) := (yComp_culprit, bComp_culprit, 2, (Option.some Jvm.ClassFile.FieldType.int), [])
abbrev bComp_takesUpper : ByteArray := prog_2_method_4_code
def yComp_takesUpper : MethodName := ⟨"PairedWords$Comparison", "takesUpper", "(II)Z"⟩
abbrev mComp_takesUpper : MethodName × ByteArray × Nat × Option FieldType × List (Nat × Nat × Nat × Nat) := (yComp_takesUpper, bComp_takesUpper, 3, (Option.some Jvm.ClassFile.FieldType.boolean), [])
abbrev bComp_mayEnd : ByteArray := prog_2_method_5_code
def yComp_mayEnd : MethodName := ⟨"PairedWords$Comparison", "mayEnd", "(I)Z"⟩
abbrev mComp_mayEnd : MethodName × ByteArray × Nat × Option FieldType × List (Nat × Nat × Nat × Nat) := (yComp_mayEnd, bComp_mayEnd, 2, (Option.some Jvm.ClassFile.FieldType.boolean), [])
abbrev bComp_meet : ByteArray := prog_2_method_6_code
def yComp_meet : MethodName := ⟨"PairedWords$Comparison", "meet", "(II)V"⟩
abbrev mComp_meet : MethodName × ByteArray × Nat × Option FieldType × List (Nat × Nat × Nat × Nat) := (yComp_meet, bComp_meet, 3, (Option.none : Option Jvm.ClassFile.FieldType), [])
abbrev bComp_isDone : ByteArray := prog_2_method_7_code
def yComp_isDone : MethodName := ⟨"PairedWords$Comparison", "isDone", "()Z"⟩
abbrev mComp_isDone : MethodName × ByteArray × Nat × Option FieldType × List (Nat × Nat × Nat × Nat) := (yComp_isDone, bComp_isDone, 1, (Option.some Jvm.ClassFile.FieldType.boolean), [])
abbrev bLexi_init : ByteArray := prog_3_method_1_code
def yLexi_init : MethodName := ⟨"PairedWords$Lexicon", "<init>", "()V"⟩
abbrev mLexi_init : MethodName × ByteArray × Nat × Option FieldType × List (Nat × Nat × Nat × Nat) := (yLexi_init, bLexi_init, 2, (Option.none : Option Jvm.ClassFile.FieldType), [])
abbrev bLexi_count : ByteArray := prog_3_method_2_code
def yLexi_count : MethodName := ⟨"PairedWords$Lexicon", "count", "()I"⟩
abbrev mLexi_count : MethodName × ByteArray × Nat × Option FieldType × List (Nat × Nat × Nat × Nat) := (yLexi_count, bLexi_count, 1, (Option.some Jvm.ClassFile.FieldType.int), [])
abbrev bLexi_signsOf : ByteArray := prog_3_method_3_code
def yLexi_signsOf : MethodName := ⟨"PairedWords$Lexicon", "signsOf", "(I)LPairedWords$Line;"⟩
abbrev mLexi_signsOf : MethodName × ByteArray × Nat × Option FieldType × List (Nat × Nat × Nat × Nat) := (yLexi_signsOf, bLexi_signsOf, 2, (Option.some (Jvm.ClassFile.FieldType.object "PairedWords$Line")), [])
abbrev bLexi_add : ByteArray := prog_3_method_4_code
def yLexi_add : MethodName := ⟨"PairedWords$Lexicon", "add", "(II)I"⟩
abbrev mLexi_add : MethodName × ByteArray × Nat × Option FieldType × List (Nat × Nat × Nat × Nat) := (yLexi_add, bLexi_add, 3, (Option.some Jvm.ClassFile.FieldType.int), [])
abbrev bLexi_goOn : ByteArray := prog_3_method_5_code
def yLexi_goOn : MethodName := ⟨"PairedWords$Lexicon", "goOn", "(IILPairedWords$Line;LPairedWords$Comparison;LPairedWords$Results;)V"⟩
abbrev mLexi_goOn : MethodName × ByteArray × Nat × Option FieldType × List (Nat × Nat × Nat × Nat) := (yLexi_goOn, bLexi_goOn, 7, (Option.none : Option Jvm.ClassFile.FieldType), [])
abbrev bLexi_put : ByteArray := prog_3_method_6_code
def yLexi_put : MethodName := ⟨"PairedWords$Lexicon", "put", "(IILPairedWords$Line;LPairedWords$Comparison;LPairedWords$Results;)V"⟩
abbrev mLexi_put : MethodName × ByteArray × Nat × Option FieldType × List (Nat × Nat × Nat × Nat) := (yLexi_put, bLexi_put, 7, (Option.none : Option Jvm.ClassFile.FieldType), [])
abbrev bLine_init : ByteArray := prog_4_method_1_code
def yLine_init : MethodName := ⟨"PairedWords$Line", "<init>", "(I)V"⟩
abbrev mLine_init : MethodName × ByteArray × Nat × Option FieldType × List (Nat × Nat × Nat × Nat) := (yLine_init, bLine_init, 2, (Option.none : Option Jvm.ClassFile.FieldType), [])
abbrev bLine_size : ByteArray := prog_4_method_2_code
def yLine_size : MethodName := ⟨"PairedWords$Line", "size", "()I"⟩
abbrev mLine_size : MethodName × ByteArray × Nat × Option FieldType × List (Nat × Nat × Nat × Nat) := (yLine_size, bLine_size, 1, (Option.some Jvm.ClassFile.FieldType.int), [])
abbrev bLine_isFull : ByteArray := prog_4_method_3_code
def yLine_isFull : MethodName := ⟨"PairedWords$Line", "isFull", "()Z"⟩
abbrev mLine_isFull : MethodName × ByteArray × Nat × Option FieldType × List (Nat × Nat × Nat × Nat) := (yLine_isFull, bLine_isFull, 1, (Option.some Jvm.ClassFile.FieldType.boolean), [])
abbrev bLine_hasRoomFor : ByteArray := prog_4_method_4_code
def yLine_hasRoomFor : MethodName := ⟨"PairedWords$Line", "hasRoomFor", "(LPairedWords$Line;)Z"⟩
abbrev mLine_hasRoomFor : MethodName × ByteArray × Nat × Option FieldType × List (Nat × Nat × Nat × Nat) := (yLine_hasRoomFor, bLine_hasRoomFor, 2, (Option.some Jvm.ClassFile.FieldType.boolean), [])
abbrev bLine_signAt : ByteArray := prog_4_method_5_code
def yLine_signAt : MethodName := ⟨"PairedWords$Line", "signAt", "(I)I"⟩
abbrev mLine_signAt : MethodName × ByteArray × Nat × Option FieldType × List (Nat × Nat × Nat × Nat) := (yLine_signAt, bLine_signAt, 2, (Option.some Jvm.ClassFile.FieldType.int), [])
abbrev bLine_add : ByteArray := prog_4_method_6_code
def yLine_add : MethodName := ⟨"PairedWords$Line", "add", "(I)I"⟩
abbrev mLine_add : MethodName × ByteArray × Nat × Option FieldType × List (Nat × Nat × Nat × Nat) := (yLine_add, bLine_add, 2, (Option.some Jvm.ClassFile.FieldType.int), [])
abbrev bLine_addAll : ByteArray := prog_4_method_7_code
def yLine_addAll : MethodName := ⟨"PairedWords$Line", "addAll", "(LPairedWords$Line;)V"⟩
abbrev mLine_addAll : MethodName × ByteArray × Nat × Option FieldType × List (Nat × Nat × Nat × Nat) := (yLine_addAll, bLine_addAll, 3, (Option.none : Option Jvm.ClassFile.FieldType), [])
abbrev bLine_cutTo : ByteArray := prog_4_method_8_code
def yLine_cutTo : MethodName := ⟨"PairedWords$Line", "cutTo", "(I)V"⟩
abbrev mLine_cutTo : MethodName × ByteArray × Nat × Option FieldType × List (Nat × Nat × Nat × Nat) := (yLine_cutTo, bLine_cutTo, 2, (Option.none : Option Jvm.ClassFile.FieldType), [])
abbrev bLine_copy : ByteArray := prog_4_method_9_code
def yLine_copy : MethodName := ⟨"PairedWords$Line", "copy", "(LPairedWords$Line;)V"⟩
abbrev mLine_copy : MethodName × ByteArray × Nat × Option FieldType × List (Nat × Nat × Nat × Nat) := (yLine_copy, bLine_copy, 2, (Option.none : Option Jvm.ClassFile.FieldType), [])
abbrev bPairs_init : ByteArray := prog_5_method_1_code
def yPairs_init : MethodName := ⟨"PairedWords$Pairs", "<init>", "()V"⟩
abbrev mPairs_init : MethodName × ByteArray × Nat × Option FieldType × List (Nat × Nat × Nat × Nat) := (yPairs_init, bPairs_init, 1, (Option.none : Option Jvm.ClassFile.FieldType), [])
abbrev bPairs_count : ByteArray := prog_5_method_2_code
def yPairs_count : MethodName := ⟨"PairedWords$Pairs", "count", "()I"⟩
abbrev mPairs_count : MethodName × ByteArray × Nat × Option FieldType × List (Nat × Nat × Nat × Nat) := (yPairs_count, bPairs_count, 1, (Option.some Jvm.ClassFile.FieldType.int), [])
abbrev bPairs_lowerOf : ByteArray := prog_5_method_3_code
def yPairs_lowerOf : MethodName := ⟨"PairedWords$Pairs", "lowerOf", "(I)I"⟩
abbrev mPairs_lowerOf : MethodName × ByteArray × Nat × Option FieldType × List (Nat × Nat × Nat × Nat) := (yPairs_lowerOf, bPairs_lowerOf, 2, (Option.some Jvm.ClassFile.FieldType.int), [])
abbrev bPairs_upperOf : ByteArray := prog_5_method_4_code
def yPairs_upperOf : MethodName := ⟨"PairedWords$Pairs", "upperOf", "(I)I"⟩
abbrev mPairs_upperOf : MethodName × ByteArray × Nat × Option FieldType × List (Nat × Nat × Nat × Nat) := (yPairs_upperOf, bPairs_upperOf, 2, (Option.some Jvm.ClassFile.FieldType.int), [])
abbrev bPairs_has : ByteArray := prog_5_method_5_code
def yPairs_has : MethodName := ⟨"PairedWords$Pairs", "has", "(II)Z"⟩
abbrev mPairs_has : MethodName × ByteArray × Nat × Option FieldType × List (Nat × Nat × Nat × Nat) := (yPairs_has, bPairs_has, 4, (Option.some Jvm.ClassFile.FieldType.boolean), [])
abbrev bPairs_hasRoomFor : ByteArray := prog_5_method_6_code
def yPairs_hasRoomFor : MethodName := ⟨"PairedWords$Pairs", "hasRoomFor", "(I)Z"⟩
abbrev mPairs_hasRoomFor : MethodName × ByteArray × Nat × Option FieldType × List (Nat × Nat × Nat × Nat) := (yPairs_hasRoomFor, bPairs_hasRoomFor, 4, (Option.some Jvm.ClassFile.FieldType.boolean), [])
abbrev bPairs_add : ByteArray := prog_5_method_7_code
def yPairs_add : MethodName := ⟨"PairedWords$Pairs", "add", "(II)I"⟩
abbrev mPairs_add : MethodName × ByteArray × Nat × Option FieldType × List (Nat × Nat × Nat × Nat) := (yPairs_add, bPairs_add, 3, (Option.some Jvm.ClassFile.FieldType.int), [])
abbrev bPatt_init : ByteArray := prog_6_method_1_code
def yPatt_init : MethodName := ⟨"PairedWords$Patterns", "<init>", "(Z)V"⟩
abbrev mPatt_init : MethodName × ByteArray × Nat × Option FieldType × List (Nat × Nat × Nat × Nat) := (yPatt_init, bPatt_init, 2, (Option.none : Option Jvm.ClassFile.FieldType), [])
abbrev bPatt_goalOf : ByteArray := prog_6_method_2_code
def yPatt_goalOf : MethodName := ⟨"PairedWords$Patterns", "goalOf", "(I)I"⟩
abbrev mPatt_goalOf : MethodName × ByteArray × Nat × Option FieldType × List (Nat × Nat × Nat × Nat) := (yPatt_goalOf, bPatt_goalOf, 1, (Option.some Jvm.ClassFile.FieldType.int), [])
abbrev bPatt_open : ByteArray := prog_6_method_3_code
def yPatt_open : MethodName := ⟨"PairedWords$Patterns", "open", "(IZ)V"⟩
abbrev mPatt_open : MethodName × ByteArray × Nat × Option FieldType × List (Nat × Nat × Nat × Nat) := (yPatt_open, bPatt_open, 3, (Option.none : Option Jvm.ClassFile.FieldType), [])
abbrev bPatt_elementsOf : ByteArray := prog_6_method_4_code
def yPatt_elementsOf : MethodName := ⟨"PairedWords$Patterns", "elementsOf", "(I)I"⟩
abbrev mPatt_elementsOf : MethodName × ByteArray × Nat × Option FieldType × List (Nat × Nat × Nat × Nat) := (yPatt_elementsOf, bPatt_elementsOf, 2, (Option.some Jvm.ClassFile.FieldType.int), [])
abbrev bPatt_addElement : ByteArray := prog_6_method_5_code
def yPatt_addElement : MethodName := ⟨"PairedWords$Patterns", "addElement", "(IIZ)I"⟩
abbrev mPatt_addElement : MethodName × ByteArray × Nat × Option FieldType × List (Nat × Nat × Nat × Nat) := (yPatt_addElement, bPatt_addElement, 6, (Option.some Jvm.ClassFile.FieldType.int), [])
abbrev bPatt_lowerElements : ByteArray := prog_6_method_6_code
def yPatt_lowerElements : MethodName := ⟨"PairedWords$Patterns", "lowerElements", "(I)V"⟩
abbrev mPatt_lowerElements : MethodName × ByteArray × Nat × Option FieldType × List (Nat × Nat × Nat × Nat) := (yPatt_lowerElements, bPatt_lowerElements, 3, (Option.none : Option Jvm.ClassFile.FieldType), [])
abbrev bPatt_lowered : ByteArray := prog_6_method_7_code
def yPatt_lowered : MethodName := ⟨"PairedWords$Patterns", "lowered", "(II)I"⟩
abbrev mPatt_lowered : MethodName × ByteArray × Nat × Option FieldType × List (Nat × Nat × Nat × Nat) := (yPatt_lowered, bPatt_lowered, 3, (Option.some Jvm.ClassFile.FieldType.int), [])
abbrev bPatt_first : ByteArray := prog_6_method_8_code
def yPatt_first : MethodName := ⟨"PairedWords$Patterns", "first", "()I"⟩
abbrev mPatt_first : MethodName × ByteArray × Nat × Option FieldType × List (Nat × Nat × Nat × Nat) := (yPatt_first, bPatt_first, 1, (Option.some Jvm.ClassFile.FieldType.int), [])
abbrev bPatt_next : ByteArray := prog_6_method_9_code
def yPatt_next : MethodName := ⟨"PairedWords$Patterns", "next", "(II)I"⟩
abbrev mPatt_next : MethodName × ByteArray × Nat × Option FieldType × List (Nat × Nat × Nat × Nat) := (yPatt_next, bPatt_next, 5, (Option.some Jvm.ClassFile.FieldType.int), [])
abbrev bPatt_skipStarred : ByteArray := prog_6_method_10_code
def yPatt_skipStarred : MethodName := ⟨"PairedWords$Patterns", "skipStarred", "(I)I"⟩
abbrev mPatt_skipStarred : MethodName × ByteArray × Nat × Option FieldType × List (Nat × Nat × Nat × Nat) := (yPatt_skipStarred, bPatt_skipStarred, 4, (Option.some Jvm.ClassFile.FieldType.int), [])
abbrev bResu_init : ByteArray := prog_7_method_1_code
def yResu_init : MethodName := ⟨"PairedWords$Results", "<init>", "()V"⟩
abbrev mResu_init : MethodName × ByteArray × Nat × Option FieldType × List (Nat × Nat × Nat × Nat) := (yResu_init, bResu_init, 1, (Option.none : Option Jvm.ClassFile.FieldType), [])
abbrev bResu_count : ByteArray := prog_7_method_2_code
def yResu_count : MethodName := ⟨"PairedWords$Results", "count", "()I"⟩
abbrev mResu_count : MethodName × ByteArray × Nat × Option FieldType × List (Nat × Nat × Nat × Nat) := (yResu_count, bResu_count, 1, (Option.some Jvm.ClassFile.FieldType.int), [])
abbrev bResu_isTooMany : ByteArray := prog_7_method_3_code
def yResu_isTooMany : MethodName := ⟨"PairedWords$Results", "isTooMany", "()Z"⟩
abbrev mResu_isTooMany : MethodName × ByteArray × Nat × Option FieldType × List (Nat × Nat × Nat × Nat) := (yResu_isTooMany, bResu_isTooMany, 1, (Option.some Jvm.ClassFile.FieldType.boolean), [])
abbrev bResu_clear : ByteArray := prog_7_method_4_code
def yResu_clear : MethodName := ⟨"PairedWords$Results", "clear", "()V"⟩
abbrev mResu_clear : MethodName × ByteArray × Nat × Option FieldType × List (Nat × Nat × Nat × Nat) := (yResu_clear, bResu_clear, 1, (Option.none : Option Jvm.ClassFile.FieldType), [])
abbrev bResu_copy : ByteArray := prog_7_method_5_code
def yResu_copy : MethodName := ⟨"PairedWords$Results", "copy", "(LPairedWords$Results;)V"⟩
abbrev mResu_copy : MethodName × ByteArray × Nat × Option FieldType × List (Nat × Nat × Nat × Nat) := (yResu_copy, bResu_copy, 2, (Option.none : Option Jvm.ClassFile.FieldType), [])
abbrev bResu_add : ByteArray := prog_7_method_6_code
def yResu_add : MethodName := ⟨"PairedWords$Results", "add", "(J)V"⟩
abbrev mResu_add : MethodName × ByteArray × Nat × Option FieldType × List (Nat × Nat × Nat × Nat) := (yResu_add, bResu_add, 5, (Option.none : Option Jvm.ClassFile.FieldType), [])
abbrev bResu_keyOf : ByteArray := prog_7_method_7_code
def yResu_keyOf : MethodName := ⟨"PairedWords$Results", "keyOf", "(LPairedWords$Line;[II)J"⟩
abbrev mResu_keyOf : MethodName × ByteArray × Nat × Option FieldType × List (Nat × Nat × Nat × Nat) := (yResu_keyOf, bResu_keyOf, 6, (Option.some Jvm.ClassFile.FieldType.long), [])
abbrev bResu_signsOf : ByteArray := prog_7_method_8_code
def yResu_signsOf : MethodName := ⟨"PairedWords$Results", "signsOf", "(I)I"⟩
abbrev mResu_signsOf : MethodName × ByteArray × Nat × Option FieldType × List (Nat × Nat × Nat × Nat) := (yResu_signsOf, bResu_signsOf, 2, (Option.some Jvm.ClassFile.FieldType.int), [])
abbrev bResu_signOf : ByteArray := prog_7_method_9_code
def yResu_signOf : MethodName := ⟨"PairedWords$Results", "signOf", "(II)I"⟩
abbrev mResu_signOf : MethodName × ByteArray × Nat × Option FieldType × List (Nat × Nat × Nat × Nat) := (yResu_signOf, bResu_signOf, 3, (Option.some Jvm.ClassFile.FieldType.int), [])
abbrev bResu_entriesOf : ByteArray := prog_7_method_10_code
def yResu_entriesOf : MethodName := ⟨"PairedWords$Results", "entriesOf", "(I)I"⟩
abbrev mResu_entriesOf : MethodName × ByteArray × Nat × Option FieldType × List (Nat × Nat × Nat × Nat) := (yResu_entriesOf, bResu_entriesOf, 2, (Option.some Jvm.ClassFile.FieldType.int), [])
abbrev bResu_entryOf : ByteArray := prog_7_method_11_code
def yResu_entryOf : MethodName := ⟨"PairedWords$Results", "entryOf", "(II)I"⟩
abbrev mResu_entryOf : MethodName × ByteArray × Nat × Option FieldType × List (Nat × Nat × Nat × Nat) := (yResu_entryOf, bResu_entryOf, 3, (Option.some Jvm.ClassFile.FieldType.int), [])
abbrev bResu_digitOf : ByteArray := prog_7_method_12_code
def yResu_digitOf : MethodName := ⟨"PairedWords$Results", "digitOf", "(II)I"⟩
abbrev mResu_digitOf : MethodName × ByteArray × Nat × Option FieldType × List (Nat × Nat × Nat × Nat) := (yResu_digitOf, bResu_digitOf, 5, (Option.some Jvm.ClassFile.FieldType.int), [])
abbrev bRule_init : ByteArray := prog_8_method_1_code
def yRule_init : MethodName := ⟨"PairedWords$Rules", "<init>", "()V"⟩
abbrev mRule_init : MethodName × ByteArray × Nat × Option FieldType × List (Nat × Nat × Nat × Nat) := (yRule_init, bRule_init, 1, (Option.none : Option Jvm.ClassFile.FieldType), [])
abbrev bRule_count : ByteArray := prog_8_method_2_code
def yRule_count : MethodName := ⟨"PairedWords$Rules", "count", "()I"⟩
abbrev mRule_count : MethodName × ByteArray × Nat × Option FieldType × List (Nat × Nat × Nat × Nat) := (yRule_count, bRule_count, 1, (Option.some Jvm.ClassFile.FieldType.int), [])
abbrev bRule_add : ByteArray := prog_8_method_3_code
def yRule_add : MethodName := ⟨"PairedWords$Rules", "add", "(II)I"⟩
abbrev mRule_add : MethodName × ByteArray × Nat × Option FieldType × List (Nat × Nat × Nat × Nat) := (yRule_add, bRule_add, 3, (Option.some Jvm.ClassFile.FieldType.int), [])
abbrev bRule_contextsOf : ByteArray := prog_8_method_4_code
def yRule_contextsOf : MethodName := ⟨"PairedWords$Rules", "contextsOf", "(I)I"⟩
abbrev mRule_contextsOf : MethodName × ByteArray × Nat × Option FieldType × List (Nat × Nat × Nat × Nat) := (yRule_contextsOf, bRule_contextsOf, 2, (Option.some Jvm.ClassFile.FieldType.int), [])
abbrev bRule_latestContextOf : ByteArray := prog_8_method_5_code
def yRule_latestContextOf : MethodName := ⟨"PairedWords$Rules", "latestContextOf", "(I)I"⟩
abbrev mRule_latestContextOf : MethodName × ByteArray × Nat × Option FieldType × List (Nat × Nat × Nat × Nat) := (yRule_latestContextOf, bRule_latestContextOf, 2, (Option.some Jvm.ClassFile.FieldType.int), [])
abbrev bRule_addContext : ByteArray := prog_8_method_6_code
def yRule_addContext : MethodName := ⟨"PairedWords$Rules", "addContext", "(IZZ)I"⟩
abbrev mRule_addContext : MethodName × ByteArray × Nat × Option FieldType × List (Nat × Nat × Nat × Nat) := (yRule_addContext, bRule_addContext, 5, (Option.some Jvm.ClassFile.FieldType.int), [])
abbrev bRule_settle : ByteArray := prog_8_method_7_code
def yRule_settle : MethodName := ⟨"PairedWords$Rules", "settle", "(LPairedWords$Pairs;)V"⟩
abbrev mRule_settle : MethodName × ByteArray × Nat × Option FieldType × List (Nat × Nat × Nat × Nat) := (yRule_settle, bRule_settle, 6, (Option.none : Option Jvm.ClassFile.FieldType), [])
abbrev bRule_asks : ByteArray := prog_8_method_8_code
def yRule_asks : MethodName := ⟨"PairedWords$Rules", "asks", "(IZ)Z"⟩
abbrev mRule_asks : MethodName × ByteArray × Nat × Option FieldType × List (Nat × Nat × Nat × Nat) := (yRule_asks, bRule_asks, 2, (Option.some Jvm.ClassFile.FieldType.boolean), [])
abbrev bRule_bars : ByteArray := prog_8_method_9_code
def yRule_bars : MethodName := ⟨"PairedWords$Rules", "bars", "(IZZ)Z"⟩
abbrev mRule_bars : MethodName × ByteArray × Nat × Option FieldType × List (Nat × Nat × Nat × Nat) := (yRule_bars, bRule_bars, 3, (Option.some Jvm.ClassFile.FieldType.boolean), [])
abbrev bRule_brokenBy : ByteArray := prog_8_method_10_code
def yRule_brokenBy : MethodName := ⟨"PairedWords$Rules", "brokenBy", "(III)I"⟩
abbrev mRule_brokenBy : MethodName × ByteArray × Nat × Option FieldType × List (Nat × Nat × Nat × Nat) := (yRule_brokenBy, bRule_brokenBy, 7, (Option.some Jvm.ClassFile.FieldType.int), [])
abbrev bSamp_init : ByteArray := prog_9_method_1_code
def ySamp_init : MethodName := ⟨"PairedWords$Samples", "<init>", "()V"⟩
abbrev mSamp_init : MethodName × ByteArray × Nat × Option FieldType × List (Nat × Nat × Nat × Nat) := (ySamp_init, bSamp_init, 2, (Option.none : Option Jvm.ClassFile.FieldType), [])
abbrev bSamp_count : ByteArray := prog_9_method_2_code
def ySamp_count : MethodName := ⟨"PairedWords$Samples", "count", "()I"⟩
abbrev mSamp_count : MethodName × ByteArray × Nat × Option FieldType × List (Nat × Nat × Nat × Nat) := (ySamp_count, bSamp_count, 1, (Option.some Jvm.ClassFile.FieldType.int), [])
abbrev bSamp_lowerOf : ByteArray := prog_9_method_3_code
def ySamp_lowerOf : MethodName := ⟨"PairedWords$Samples", "lowerOf", "(I)LPairedWords$Line;"⟩
abbrev mSamp_lowerOf : MethodName × ByteArray × Nat × Option FieldType × List (Nat × Nat × Nat × Nat) := (ySamp_lowerOf, bSamp_lowerOf, 2, (Option.some (Jvm.ClassFile.FieldType.object "PairedWords$Line")), [])
abbrev bSamp_upperOf : ByteArray := prog_9_method_4_code
def ySamp_upperOf : MethodName := ⟨"PairedWords$Samples", "upperOf", "(I)LPairedWords$Line;"⟩
abbrev mSamp_upperOf : MethodName × ByteArray × Nat × Option FieldType × List (Nat × Nat × Nat × Nat) := (ySamp_upperOf, bSamp_upperOf, 2, (Option.some (Jvm.ClassFile.FieldType.object "PairedWords$Line")), [])
abbrev bSamp_add : ByteArray := prog_9_method_5_code
def ySamp_add : MethodName := ⟨"PairedWords$Samples", "add", "(LPairedWords$Line;LPairedWords$Line;)I"⟩
abbrev mSamp_add : MethodName × ByteArray × Nat × Option FieldType × List (Nat × Nat × Nat × Nat) := (ySamp_add, bSamp_add, 3, (Option.some Jvm.ClassFile.FieldType.int), [])
abbrev bSear_init : ByteArray := prog_10_method_1_code
def ySear_init : MethodName := ⟨"PairedWords$Search", "<init>", "(LPairedWords$Pairs;LPairedWords$Rules;)V"⟩
abbrev mSear_init : MethodName × ByteArray × Nat × Option FieldType × List (Nat × Nat × Nat × Nat) := (ySear_init, bSear_init, 3, (Option.none : Option Jvm.ClassFile.FieldType), [])
abbrev bSear_goThrough : ByteArray := prog_10_method_6_code
def ySear_goThrough : MethodName := ⟨"PairedWords$Search", "goThrough", "(LPairedWords$Line;)V"⟩
abbrev mSear_goThrough : MethodName × ByteArray × Nat × Option FieldType × List (Nat × Nat × Nat × Nat) := (ySear_goThrough, bSear_goThrough, 2, (Option.none : Option Jvm.ClassFile.FieldType), [])
abbrev bSear_upperAt : ByteArray := prog_10_method_7_code
def ySear_upperAt : MethodName := ⟨"PairedWords$Search", "upperAt", "(I)I"⟩
abbrev mSear_upperAt : MethodName × ByteArray × Nat × Option FieldType × List (Nat × Nat × Nat × Nat) := (ySear_upperAt, bSear_upperAt, 2, (Option.some Jvm.ClassFile.FieldType.int), [])
abbrev bSear_extend : ByteArray := prog_10_method_8_code
def ySear_extend : MethodName := ⟨"PairedWords$Search", "extend", "(III)V"⟩
abbrev mSear_extend : MethodName × ByteArray × Nat × Option FieldType × List (Nat × Nat × Nat × Nat) := (ySear_extend, bSear_extend, 5, (Option.none : Option Jvm.ClassFile.FieldType), [])
abbrev bSear_put : ByteArray := prog_10_method_9_code
def ySear_put : MethodName := ⟨"PairedWords$Search", "put", "(IIII)V"⟩
abbrev mSear_put : MethodName × ByteArray × Nat × Option FieldType × List (Nat × Nat × Nat × Nat) := (ySear_put, bSear_put, 7, (Option.none : Option Jvm.ClassFile.FieldType), [])
abbrev bSear_fitsLower : ByteArray := prog_10_method_10_code
def ySear_fitsLower : MethodName := ⟨"PairedWords$Search", "fitsLower", "(III)Z"⟩
abbrev mSear_fitsLower : MethodName × ByteArray × Nat × Option FieldType × List (Nat × Nat × Nat × Nat) := (ySear_fitsLower, bSear_fitsLower, 5, (Option.some Jvm.ClassFile.FieldType.boolean), [])
abbrev bSear_fitsUpper : ByteArray := prog_10_method_11_code
def ySear_fitsUpper : MethodName := ⟨"PairedWords$Search", "fitsUpper", "(II)Z"⟩
abbrev mSear_fitsUpper : MethodName × ByteArray × Nat × Option FieldType × List (Nat × Nat × Nat × Nat) := (ySear_fitsUpper, bSear_fitsUpper, 4, (Option.some Jvm.ClassFile.FieldType.boolean), [])
abbrev bSear_brokenRules : ByteArray := prog_10_method_12_code
def ySear_brokenRules : MethodName := ⟨"PairedWords$Search", "brokenRules", "(I)I"⟩
abbrev mSear_brokenRules : MethodName × ByteArray × Nat × Option FieldType × List (Nat × Nat × Nat × Nat) := (ySear_brokenRules, bSear_brokenRules, 5, (Option.some Jvm.ClassFile.FieldType.int), [])
abbrev bWrit_init : ByteArray := prog_11_method_1_code
def yWrit_init : MethodName := ⟨"PairedWords$Writing", "<init>", "(LPairedWords$Pairs;LPairedWords$Rules;LPairedWords$Results;)V"⟩
abbrev mWrit_init : MethodName × ByteArray × Nat × Option FieldType × List (Nat × Nat × Nat × Nat) := (yWrit_init, bWrit_init, 4, (Option.none : Option Jvm.ClassFile.FieldType), [])
abbrev bWrit_takesUpper : ByteArray := prog_11_method_2_code
def yWrit_takesUpper : MethodName := ⟨"PairedWords$Writing", "takesUpper", "(II)Z"⟩
abbrev mWrit_takesUpper : MethodName × ByteArray × Nat × Option FieldType × List (Nat × Nat × Nat × Nat) := (yWrit_takesUpper, bWrit_takesUpper, 3, (Option.some Jvm.ClassFile.FieldType.boolean), [])
abbrev bWrit_mayEnd : ByteArray := prog_11_method_3_code
def yWrit_mayEnd : MethodName := ⟨"PairedWords$Writing", "mayEnd", "(I)Z"⟩
abbrev mWrit_mayEnd : MethodName × ByteArray × Nat × Option FieldType × List (Nat × Nat × Nat × Nat) := (yWrit_mayEnd, bWrit_mayEnd, 2, (Option.some Jvm.ClassFile.FieldType.boolean), [])
abbrev bWrit_meet : ByteArray := prog_11_method_4_code
def yWrit_meet : MethodName := ⟨"PairedWords$Writing", "meet", "(II)V"⟩
abbrev mWrit_meet : MethodName × ByteArray × Nat × Option FieldType × List (Nat × Nat × Nat × Nat) := (yWrit_meet, bWrit_meet, 4, (Option.none : Option Jvm.ClassFile.FieldType), [])
abbrev bWrit_isDone : ByteArray := prog_11_method_5_code
def yWrit_isDone : MethodName := ⟨"PairedWords$Writing", "isDone", "()Z"⟩
abbrev mWrit_isDone : MethodName × ByteArray × Nat × Option FieldType × List (Nat × Nat × Nat × Nat) := (yWrit_isDone, bWrit_isDone, 1, (Option.some Jvm.ClassFile.FieldType.boolean), [])
abbrev bLaw_pair : ByteArray := method_3_code
def yLaw_pair : MethodName := ⟨"PairedWordsLaw", "pair", "(LPairedWords;II[J)I"⟩
abbrev mLaw_pair : MethodName × ByteArray × Nat × Option FieldType × List (Nat × Nat × Nat × Nat) := (yLaw_pair, bLaw_pair, 5, (Option.some Jvm.ClassFile.FieldType.int), [((0 : Nat), (10 : Nat), (13 : Nat), (13 : Nat)), ((0 : Nat), (10 : Nat), (17 : Nat), (15 : Nat))])
abbrev bLaw_rule : ByteArray := method_4_code
def yLaw_rule : MethodName := ⟨"PairedWordsLaw", "rule", "(LPairedWords;II[J)I"⟩
abbrev mLaw_rule : MethodName × ByteArray × Nat × Option FieldType × List (Nat × Nat × Nat × Nat) := (yLaw_rule, bLaw_rule, 5, (Option.some Jvm.ClassFile.FieldType.int), [((0 : Nat), (10 : Nat), (13 : Nat), (13 : Nat)), ((0 : Nat), (10 : Nat), (17 : Nat), (15 : Nat))])
abbrev bLaw_context : ByteArray := method_5_code
def yLaw_context : MethodName := ⟨"PairedWordsLaw", "context", "(LPairedWords;IZZ[J)I"⟩
abbrev mLaw_context : MethodName × ByteArray × Nat × Option FieldType × List (Nat × Nat × Nat × Nat) := (yLaw_context, bLaw_context, 6, (Option.some Jvm.ClassFile.FieldType.int), [((0 : Nat), (12 : Nat), (15 : Nat), (13 : Nat)), ((0 : Nat), (12 : Nat), (19 : Nat), (15 : Nat))])
abbrev bLaw_element : ByteArray := method_6_code
def yLaw_element : MethodName := ⟨"PairedWordsLaw", "element", "(LPairedWords;IZIZ[J)I"⟩
abbrev mLaw_element : MethodName × ByteArray × Nat × Option FieldType × List (Nat × Nat × Nat × Nat) := (yLaw_element, bLaw_element, 7, (Option.some Jvm.ClassFile.FieldType.int), [((0 : Nat), (14 : Nat), (17 : Nat), (13 : Nat)), ((0 : Nat), (14 : Nat), (21 : Nat), (15 : Nat))])
abbrev bLaw_entry : ByteArray := method_7_code
def yLaw_entry : MethodName := ⟨"PairedWordsLaw", "entry", "(LPairedWords;II[J)I"⟩
abbrev mLaw_entry : MethodName × ByteArray × Nat × Option FieldType × List (Nat × Nat × Nat × Nat) := (yLaw_entry, bLaw_entry, 5, (Option.some Jvm.ClassFile.FieldType.int), [((0 : Nat), (10 : Nat), (13 : Nat), (13 : Nat)), ((0 : Nat), (10 : Nat), (17 : Nat), (15 : Nat))])
abbrev bLaw_spell : ByteArray := method_8_code
def yLaw_spell : MethodName := ⟨"PairedWordsLaw", "spell", "(LPairedWords;II[J)I"⟩
abbrev mLaw_spell : MethodName × ByteArray × Nat × Option FieldType × List (Nat × Nat × Nat × Nat) := (yLaw_spell, bLaw_spell, 5, (Option.some Jvm.ClassFile.FieldType.int), [((0 : Nat), (10 : Nat), (13 : Nat), (13 : Nat)), ((0 : Nat), (10 : Nat), (17 : Nat), (15 : Nat))])
abbrev bLaw_type : ByteArray := method_9_code
def yLaw_type : MethodName := ⟨"PairedWordsLaw", "type", "(LPairedWords;ZI[J)I"⟩
abbrev mLaw_type : MethodName × ByteArray × Nat × Option FieldType × List (Nat × Nat × Nat × Nat) := (yLaw_type, bLaw_type, 5, (Option.some Jvm.ClassFile.FieldType.int), [((0 : Nat), (10 : Nat), (13 : Nat), (13 : Nat)), ((0 : Nat), (10 : Nat), (17 : Nat), (15 : Nat))])
abbrev bLaw_write : ByteArray := method_10_code
def yLaw_write : MethodName := ⟨"PairedWordsLaw", "write", "(LPairedWords;[J)I"⟩
abbrev mLaw_write : MethodName × ByteArray × Nat × Option FieldType × List (Nat × Nat × Nat × Nat) := (yLaw_write, bLaw_write, 3, (Option.some Jvm.ClassFile.FieldType.int), [((0 : Nat), (8 : Nat), (11 : Nat), (15 : Nat))])
abbrev bLaw_analyse : ByteArray := method_11_code
def yLaw_analyse : MethodName := ⟨"PairedWordsLaw", "analyse", "(LPairedWords;[J)I"⟩
abbrev mLaw_analyse : MethodName × ByteArray × Nat × Option FieldType × List (Nat × Nat × Nat × Nat) := (yLaw_analyse, bLaw_analyse, 3, (Option.some Jvm.ClassFile.FieldType.int), [((0 : Nat), (8 : Nat), (11 : Nat), (15 : Nat))])
abbrev bLaw_length : ByteArray := method_12_code
def yLaw_length : MethodName := ⟨"PairedWordsLaw", "length", "(LPairedWords;IZ[J)I"⟩
abbrev mLaw_length : MethodName × ByteArray × Nat × Option FieldType × List (Nat × Nat × Nat × Nat) := (yLaw_length, bLaw_length, 5, (Option.some Jvm.ClassFile.FieldType.int), [((0 : Nat), (10 : Nat), (13 : Nat), (49 : Nat))])
abbrev bLaw_result : ByteArray := method_13_code
def yLaw_result : MethodName := ⟨"PairedWordsLaw", "result", "(LPairedWords;IIZ[J)I"⟩
abbrev mLaw_result : MethodName × ByteArray × Nat × Option FieldType × List (Nat × Nat × Nat × Nat) := (yLaw_result, bLaw_result, 6, (Option.some Jvm.ClassFile.FieldType.int), [((0 : Nat), (12 : Nat), (15 : Nat), (49 : Nat))])
abbrev bLaw_sample : ByteArray := method_14_code
def yLaw_sample : MethodName := ⟨"PairedWordsLaw", "sample", "(LPairedWords;[J)I"⟩
abbrev mLaw_sample : MethodName × ByteArray × Nat × Option FieldType × List (Nat × Nat × Nat × Nat) := (yLaw_sample, bLaw_sample, 3, (Option.some Jvm.ClassFile.FieldType.int), [((0 : Nat), (8 : Nat), (11 : Nat), (15 : Nat))])
abbrev bLaw_law : ByteArray := code
def yLaw_law : MethodName := ⟨"PairedWordsLaw", "law", "([I)Z"⟩
abbrev mLaw_law : MethodName × ByteArray × Nat × Option FieldType × List (Nat × Nat × Nat × Nat) := (yLaw_law, bLaw_law, 7, (Option.some Jvm.ClassFile.FieldType.boolean), [])
end
section
/-! The abstract configuration: a heap as a function from addresses to cells, locals as a list, and the judgement Ex (the machine, standing at this configuration, comes to an end that Q allows). -/
abbrev xG : Type := va_G × (Nat → ClassId) × (Nat → Option (Nat × (Nat → Int32)))
abbrev xE : Type := (Nat × vp_A) ⊕ (Nat × List Value)
abbrev xH : Type := Nat × (Nat → Option xE)
abbrev xO : Type := Option Value ⊕ String
abbrev xMt : Type := MethodName × ByteArray × Nat × Option FieldType × List (Nat × Nat × Nat × Nat)
abbrev xCt : Type := Launch × xG × Nat × Nat × Nat × xH × (xO → xH → Prop)
def xv (G : xG) (e : xE) : va_E := match e with
  | .inl a => .inl (G.2.1 a.1, a.2)
  | .inr o => .inr o
/-- the addresses that a method that begins with h may write: its cells, and what is made from here on -/
def xA (h : xH) (q : Nat) : Prop := (h.2 q).isSome = true ∨ h.1 ≤ q
def xRep (G : xG) (h : xH) (H : Heap) : Prop := H.size = h.1 ∧ ∀ (a : Nat) (e : xE), h.2 a = some e → va_at G.1 xcl (a, xv G e) H
def xup (h : xH) (a : Nat) (e : xE) : xH := (h.1, fun q => if q = a then some e else h.2 q)
def xnew (h : xH) (e : xE) : xH := (h.1 + 1, fun q => if q = h.1 then some e else h.2 q)
def xbump (h : xH) : xH := (h.1 + 1, h.2)
theorem xup_1 (h : xH) (a : Nat) (e : xE) : (xup h a e).1 = h.1 := rfl
theorem xup_self (h : xH) (a : Nat) (e : xE) : (xup h a e).2 a = some e := by simp [xup]
theorem xup_ne (h : xH) {a b : Nat} (e : xE) (hb : b ≠ a) : (xup h a e).2 b = h.2 b := by simp [xup, hb]
theorem xup_up (h : xH) (a : Nat) (e e' : xE) : xup (xup h a e) a e' = xup h a e' := by
  simp only [xup]
  congr 1
  funext q
  by_cases hq : q = a <;> simp [hq]
theorem xup_comm (h : xH) {a b : Nat} (e e' : xE) (hab : a ≠ b) : xup (xup h a e) b e' = xup (xup h b e') a e := by
  simp only [xup]
  congr 1
  funext q
  by_cases hq : q = a
  · subst hq; simp [hab]
  · by_cases hq2 : q = b
    · subst hq2; simp [hq]
    · simp [hq, hq2]
theorem xup_same {h : xH} {a : Nat} {e : xE} (hh : h.2 a = some e) : xup h a e = h := by
  obtain ⟨z, f⟩ := h
  simp only [xup]
  congr 1
  funext q
  by_cases hq : q = a
  · subst hq; simp only [if_true]; exact hh.symm
  · simp [hq]
/-- since the method began (heap H0, cells h0): what isn't its own is as it was; what was written is its own; its cells now are its own -/
def xS (h0 : xH) (H0 : Heap) (h : xH) (H : Heap) (locs : List Loc) : Prop :=
  H0.size ≤ H.size ∧ (∀ q : Nat, q < H0.size → ¬ xA h0 q → H[q]? = H0[q]?) ∧ (∀ x ∈ locs, xA h0 x.base) ∧ ∀ q : Nat, xA h q → xA h0 q
theorem xS.va {h0 h : xH} {H0 H : Heap} {locs : List Loc} (hS : xS h0 H0 h H locs) : va_S (xA h0) H0 H locs := ⟨hS.1, hS.2.1, hS.2.2.1⟩
/-- locals -/
def xL (ls : Array Slot) (nL : Nat) (L : List (Option Value)) : Prop := ls.size = nL ∧ lv_wf ls ∧ ∀ (i : Nat) (v : Value), L[i]? = some (some v) → ls[i]? = some (.val v)
def xcut (a : Option Value) : Option Value := match a with
  | some (.long _) => none
  | some (.double _) => none
  | x => x
def xset1 : List (Option Value) → Nat → Value → List (Option Value)
  | [], _, _ => []
  | _ :: t, 0, v => some v :: t
  | a :: t, 1, v => xcut a :: xset1 t 0 v
  | a :: t, i + 2, v => a :: xset1 t (i + 1) v
def xset2 : List (Option Value) → Nat → Value → List (Option Value)
  | [], _, _ => []
  | [_], 0, v => [some v]
  | _ :: _ :: t, 0, v => some v :: none :: t
  | a :: t, 1, v => xcut a :: xset2 t 0 v
  | a :: t, i + 2, v => a :: xset2 t (i + 1) v
def xprs (L : List (Option Value)) : List (Nat × Value) := L.zipIdx.filterMap (fun q => q.1.map (fun v => (q.2, v)))
theorem xprs_mem {L : List (Option Value)} {q : Nat × Value} : q ∈ xprs L ↔ L[q.1]? = some (some q.2) := by
  unfold xprs
  rw [List.mem_filterMap]
  constructor
  · rintro ⟨⟨a, i⟩, h1, h2⟩
    rw [List.mem_zipIdx_iff_getElem?] at h1
    cases a with
    | none => simp at h2
    | some w =>
      simp at h2
      subst h2
      exact h1
  · intro h
    exact ⟨(some q.2, q.1), List.mem_zipIdx_iff_getElem?.mpr h, by simp⟩
theorem xL_has {ls : Array Slot} {nL : Nat} {L : List (Option Value)} (h : xL ls nL L) : lv_has ls nL (xprs L) := ⟨h.1, h.2.1, fun q hq => h.2.2 q.1 q.2 (xprs_mem.mp hq)⟩
theorem xL_ix {L : List (Option Value)} {i : Nat} {v : Value} (h : L[i]? = some (some v)) : ∃ j : Nat, (xprs L)[j]? = some (i, v) := List.mem_iff_getElem?.mp (xprs_mem (q := (i, v)).mpr h)
theorem xcut_some {a : Option Value} {w : Value} (h : xcut a = some w) : a = some w ∧ ¬ w.category = 2 := by
  cases a with
  | none => simp [xcut] at h
  | some v => cases v <;> simp [xcut] at h <;> subst h <;> simp [Value.category]
theorem xset1_get : ∀ (L : List (Option Value)) (i : Nat) (v : Value) (j : Nat) (w : Value), (xset1 L i v)[j]? = some (some w) → (j = i ∧ w = v) ∨ (j ≠ i ∧ L[j]? = some (some w) ∧ ¬ (j + 1 = i ∧ w.category = 2))
  | [], i, v, j, w, h => by simp [xset1] at h
  | a :: t, 0, v, 0, w, h => by simp [xset1] at h; exact Or.inl ⟨rfl, h.symm⟩
  | a :: t, 0, v, j + 1, w, h => by simp [xset1] at h; exact Or.inr ⟨by omega, by simpa using h, by omega⟩
  | a :: t, 1, v, 0, w, h => by
    simp [xset1] at h
    obtain ⟨h1, h2⟩ := xcut_some h
    exact Or.inr ⟨by omega, by simp [h1], fun q => h2 q.2⟩
  | a :: t, 1, v, j + 1, w, h => by
    simp [xset1] at h
    rcases xset1_get t 0 v j w h with ⟨h1, h2⟩ | ⟨h1, h2, h3⟩
    · exact Or.inl ⟨by omega, h2⟩
    · exact Or.inr ⟨by omega, by simpa using h2, by omega⟩
  | a :: t, i + 2, v, 0, w, h => by simp [xset1] at h; exact Or.inr ⟨by omega, by simp [h], by omega⟩
  | a :: t, i + 2, v, j + 1, w, h => by
    simp [xset1] at h
    rcases xset1_get t (i + 1) v j w h with ⟨h1, h2⟩ | ⟨h1, h2, h3⟩
    · exact Or.inl ⟨by omega, h2⟩
    · exact Or.inr ⟨by omega, by simpa using h2, fun q => h3 ⟨by omega, q.2⟩⟩
theorem xset2_get : ∀ (L : List (Option Value)) (i : Nat) (v : Value) (j : Nat) (w : Value), (xset2 L i v)[j]? = some (some w) → (j = i ∧ w = v) ∨ (j ≠ i ∧ j ≠ i + 1 ∧ L[j]? = some (some w) ∧ ¬ (j + 1 = i ∧ w.category = 2))
  | [], i, v, j, w, h => by simp [xset2] at h
  | [a], 0, v, 0, w, h => by simp [xset2] at h; exact Or.inl ⟨rfl, h.symm⟩
  | [a], 0, v, j + 1, w, h => by simp [xset2] at h
  | a :: b :: t, 0, v, 0, w, h => by simp [xset2] at h; exact Or.inl ⟨rfl, h.symm⟩
  | a :: b :: t, 0, v, 1, w, h => by simp [xset2] at h
  | a :: b :: t, 0, v, j + 2, w, h => by simp [xset2] at h; exact Or.inr ⟨by omega, by omega, by simpa using h, by omega⟩
  | a :: t, 1, v, 0, w, h => by
    simp [xset2] at h
    obtain ⟨h1, h2⟩ := xcut_some h
    exact Or.inr ⟨by omega, by omega, by simp [h1], fun q => h2 q.2⟩
  | a :: t, 1, v, j + 1, w, h => by
    simp [xset2] at h
    rcases xset2_get t 0 v j w h with ⟨h1, h2⟩ | ⟨h1, h2, h3, h4⟩
    · exact Or.inl ⟨by omega, h2⟩
    · exact Or.inr ⟨by omega, by omega, by simpa using h3, by omega⟩
  | a :: t, i + 2, v, 0, w, h => by simp [xset2] at h; exact Or.inr ⟨by omega, by omega, by simp [h], by omega⟩
  | a :: t, i + 2, v, j + 1, w, h => by
    simp [xset2] at h
    rcases xset2_get t (i + 1) v j w h with ⟨h1, h2⟩ | ⟨h1, h2, h3, h4⟩
    · exact Or.inl ⟨by omega, h2⟩
    · exact Or.inr ⟨by omega, by omega, by simpa using h3, fun q => h4 ⟨by omega, q.2⟩⟩
theorem xL_of1 {ls : Array Slot} {nL i : Nat} {L : List (Option Value)} {v : Value} (h : lv_has ls nL ((i, v) :: (xprs L).filter (fun q => !(q.1 == i) && !(q.1 + 1 == i && q.2.category == 2)))) : xL ls nL (xset1 L i v) := by
  refine ⟨h.1, h.2.1, fun j w hw => ?_⟩
  rcases xset1_get L i v j w hw with ⟨rfl, rfl⟩ | ⟨h1, h2, h3⟩
  · exact h.2.2 (j, w) List.mem_cons_self
  · refine h.2.2 (j, w) (List.mem_cons_of_mem _ (List.mem_filter.mpr ⟨xprs_mem.mpr h2, ?_⟩))
    simp [h1]
    by_cases h4 : j + 1 = i
    · exact Or.inr fun h5 => h3 ⟨h4, h5⟩
    · exact Or.inl h4
theorem xL_of2 {ls : Array Slot} {nL i : Nat} {L : List (Option Value)} {v : Value} (h : lv_has ls nL ((i, v) :: (xprs L).filter (fun q => !(q.1 == i) && (!(q.1 == i + 1) && !(q.1 + 1 == i && q.2.category == 2))))) : xL ls nL (xset2 L i v) := by
  refine ⟨h.1, h.2.1, fun j w hw => ?_⟩
  rcases xset2_get L i v j w hw with ⟨rfl, rfl⟩ | ⟨h1, h2, h3, h4⟩
  · exact h.2.2 (j, w) List.mem_cons_self
  · refine h.2.2 (j, w) (List.mem_cons_of_mem _ (List.mem_filter.mpr ⟨xprs_mem.mpr h3, ?_⟩))
    simp [h1, h2]
    by_cases h5 : j + 1 = i
    · exact Or.inr fun h6 => h4 ⟨h5, h6⟩
    · exact Or.inl h5
end
section
/-! What the method's surroundings are: the tables' words, arrays' classes, statics and strings. -/
theorem xwk_at {args a' : Array Value} {s U : State} {w : Cond} (hW : s.WarmedH U.vm) (hk : xwk w = true) (h : w.before args s = true) : w.before a' U = true := by
  have e : U.setVm U.vm = U := State.setVm_self U
  unfold xwk at hk
  simp only [Bool.or_eq_true, Bool.and_eq_true] at hk
  rcases hk with (⟨ho, h1 | h1⟩ | hg) | ha
  · have h2 := Cond.onTables_warmFace (args' := a') (T := U) hW ho h1 h
    rwa [e] at h2
  · have h2 := Cond.onTables_warmH (args' := a') (T := U) hW ho h1 h
    rwa [e] at h2
  · exact word_at hW (good_of_word hg) h
  · split at ha
    · exact va_AO.use (va_AO.moved hW.alike (va_AO.of h))
    · cases ha
theorem xTAB_k : ∀ w ∈ xTAB, xwk w = true := fun w hw => (List.mem_filter.mp hw).2
/-- arrays by their numbers: 0 int, 1 long, 2 Line, 3 boolean -/
def xtys (G : xG) : List (ClassId × FieldType) := [(G.2.1 0, .int), (G.2.1 1, .long), (G.2.1 2, .object "PairedWords$Line"), (G.2.1 3, .boolean)]
/-- a static field that nobody writes holds v -/
def xSt (C n d : String) (v : Value) (A : Nat → Prop) (U : State) (H : Heap) : Prop := ∃ (c : ClassId) (k : Class) (i : Nat) (f : Field) (a : Nat) (cell : Cell), U.vm.findClass C = some c ∧ U.fieldFound? C n d = some (c, k, i, f) ∧ f.isStatic = true ∧ k.init = .initialized ∧ k.statics = some a ∧ H[a]? = some cell ∧ cell.vm.isStatics = true ∧ cell.cls = c ∧ f.slot < cell.slots.size ∧ k.staticTypes[f.slot]? = some f.type ∧ cell.slots[f.slot]? = some v ∧ ¬ A a
theorem xSt.moved {C n d : String} {v : Value} {A : Nat → Prop} {u U : State} {H : Heap} (hvm : u.vm.Alike U.vm) (h : xSt C n d v A u H) : xSt C n d v A U H := by
  obtain ⟨c, k, i, f, a, cell, h1, h2, h3, h4, h5, h6, h7, h8, h9, h10, h11, h12⟩ := h
  obtain ⟨k', hi', he⟩ := State.fieldFound?_setVm hvm h2
  exact ⟨c, k', i, f, a, cell, by rw [hvm.findClass]; exact h1, hi', h3, by rw [he]; exact h4, by rw [he]; exact h5, h6, h7, h8, h9, by rw [he]; exact h10, h11, h12⟩
theorem xSt.kept {C n d : String} {v : Value} {A : Nat → Prop} {U : State} {H H1 : Heap} (h : xSt C n d v A U H) (hq : ∀ a : Nat, a < H.size → ¬ A a → H1[a]? = H[a]?) : xSt C n d v A U H1 := by
  obtain ⟨c, k, i, f, a, cell, h1, h2, h3, h4, h5, h6, h7⟩ := h
  exact ⟨c, k, i, f, a, cell, h1, h2, h3, h4, h5, by rw [hq a (Array.getElem?_eq_some_iff.mp h6).1 h7.2.2.2.2.2]; exact h6, h7⟩
theorem xSt.narrow {C n d : String} {v : Value} {A B : Nat → Prop} {U : State} {H : Heap} (h : xSt C n d v A U H) (hAB : ∀ q, B q → A q) : xSt C n d v B U H := by
  obtain ⟨c, k, i, f, a, cell, h1, h2, h3, h4, h5, h6, h7, h8, h9, h10, h11, h12⟩ := h
  exact ⟨c, k, i, f, a, cell, h1, h2, h3, h4, h5, h6, h7, h8, h9, h10, h11, fun z => h12 (hAB _ z)⟩
theorem xSt.lays {C n d : String} {v : Value} {A : Nat → Prop} {s : State} {args : Array Value} (h : xSt C n d v A s s.heap) : (Cond.laysStatic C n d).before args s = true := by
  obtain ⟨c, k, i, f, a, cell, h1, h2, h3, h4, h5, h6, h7, h8, h9, h10, -⟩ := h
  show (Cond.laysStatic C n d).holds args s none s [] = true
  exact Cond.laysStatic_of h1 h2 h3 h5 h6 h7 h8 h9 h10
theorem xSt.isRef {C n d : String} {v : Value} {A : Nat → Prop} {s : State} {args : Array Value} (h : xSt C n d v A s s.heap) (hv : v.isRef = true) : (Cond.isRef (.static C n d)).before args s = true := by
  obtain ⟨c, k, i, f, a, cell, h1, h2, h3, h4, h5, h6, h7, h8, h9, h10, h11, -⟩ := h
  have he : (Term.static C n d).eval args s none [] s = some v := by
    simp [Term.eval, State.fieldNamed?, h2, h3, h5, h6, h7, h11]
  simp only [Cond.before, Cond.holds, Cond.value, he]
  cases v <;> simp_all [Value.isRef]
theorem xSt.z {C n d : String} {v : Value} {A : Nat → Prop} {U : State} {H : Heap} (h : xSt C n d v A U H) : va_Z C n d v A U H := by
  obtain ⟨c, k, i, f, a, cell, h1, h2, h3, h4, h5, h6, h7, h8, h9, h10, h11, h12⟩ := h
  exact ⟨c, k, i, f, a, cell, h2, h3, h4, h5, h6, h7, h11, h12⟩
theorem xSt_of {args : Array Value} {s : State} {C n d : String} {v : Value} {A : Nat → Prop} (hl : (Cond.laysStatic C n d).before args s = true) (hini : (Cond.initialized C).before args s = true) (hv : (Term.static C n d).eval args s none [] s = some v) (hA : ∀ a : Nat, a < s.heap.size → ¬ A a) : xSt C n d v A s s.heap := by
  obtain ⟨c, k, i, f, a, cell, hc, hi, hst, ha, hcell, hs, hcls, hlt, hty⟩ := Cond.laysStatic_spec hl
  obtain ⟨hst', a', cell', ha', hcell', -, hslot⟩ := Term.static_spec hi hv
  cases ha.symm.trans ha'
  cases hcell.symm.trans hcell'
  exact ⟨c, k, i, f, a, cell, hc, hi, hst, Cond.initialized_spec hc (State.fieldFound?_spec hi).1 hini, ha, hcell, hs, hcls, hlt, hty, hslot, hA a (Array.getElem?_eq_some_iff.mp hcell).1⟩
def xZs (G : xG) (A : Nat → Prop) (U : State) (H : Heap) : Prop :=
  (∃ v : Value, v.isRef = true ∧ xSt Bundle.tN "UNASSIGNED_STACK" Bundle.steD v A U H) ∧ (∃ v : Value, v.isRef = true ∧ xSt Bundle.tN "SUPPRESSED_SENTINEL" Bundle.listD v A U H) ∧
    ∃ (a : Nat) (f : Nat → Int32), G.2.2 a = some (0, f) ∧ xSt "PairedWords$Writing" "NO_ENTRIES" "[I" (.ref a) A U H
theorem xZs_moved {G : xG} {A : Nat → Prop} {u U : State} {H : Heap} (hvm : u.vm.Alike U.vm) (h : xZs G A u H) : xZs G A U H := by
  obtain ⟨⟨v, h1, h2⟩, ⟨w, h3, h4⟩, a, f, h5, h6⟩ := h
  exact ⟨⟨v, h1, h2.moved hvm⟩, ⟨w, h3, h4.moved hvm⟩, a, f, h5, h6.moved hvm⟩
theorem xZs_kept {G : xG} {A : Nat → Prop} {U : State} {H H1 : Heap} (h : xZs G A U H) (hq : ∀ a : Nat, a < H.size → ¬ A a → H1[a]? = H[a]?) : xZs G A U H1 := by
  obtain ⟨⟨v, h1, h2⟩, ⟨w, h3, h4⟩, a, f, h5, h6⟩ := h
  exact ⟨⟨v, h1, h2.kept hq⟩, ⟨w, h3, h4.kept hq⟩, a, f, h5, h6.kept hq⟩
theorem xZs_narrow {G : xG} {A B : Nat → Prop} {U : State} {H : Heap} (h : xZs G A U H) (hAB : ∀ q, B q → A q) : xZs G B U H := by
  obtain ⟨⟨v, h1, h2⟩, ⟨w, h3, h4⟩, a, f, h5, h6⟩ := h
  exact ⟨⟨v, h1, h2.narrow hAB⟩, ⟨w, h3, h4.narrow hAB⟩, a, f, h5, h6.narrow hAB⟩
/-- the String constants of the exceptions -/
def xSTR : List (String × Nat × String) := [("PairedWords", 83, "no such sign"), ("PairedWords", 92, "both empty, or there already"), ("PairedWords", 99, "as many pairs as may be"), ("PairedWords", 117, "no such kind or pair"), ("PairedWords", 120, "as many rules as may be"), ("PairedWords", 123, "no such rule"), ("PairedWords", 129, "as many contexts as may be"), ("PairedWords", 135, "no such set of pairs"), ("PairedWords", 137, "no context"), ("PairedWords", 154, "as many elements as may be"), ("PairedWords", 163, "no such part"), ("PairedWords", 166, "as many entries as may be"), ("PairedWords", 172, "no such entry or sign"), ("PairedWords", 182, "as many signs as may be"), ("PairedWords", 186, "the line is full"), ("PairedWords", 208, "too many results"), ("PairedWords", 221, "no such result"), ("PairedWords", 229, "no such sign or entry"), ("PairedWords", 238, "as many samples as may be")]
/-- what of the start is about the tables alone but is no word of xTAB -/
def xT (U : State) : Prop := (∀ q ∈ xSTR, ∃ a : Nat, vk_R q.1 q.2.1 q.2.2 a U) ∧ va_Nc "java/lang/IllegalStateException" "java/lang/IllegalArgumentException" U
theorem xT_moved {s U : State} (hW : s.WarmedH U.vm) (h : xT s) : xT U := ⟨fun q hq => by
  obtain ⟨a, ha⟩ := h.1 q hq
  exact ⟨a, vk_R.warm hW ha⟩, va_Nc.moved hW.alike h.2⟩
end
section
/-! The judgement Ex and its rows that touch the heap. -/
def xK (G : xG) (U : State) : Prop := va_K G.1 xcl (xtys G) U ∧ (∀ w ∈ xTAB, w.before #[] U = true) ∧ xT U
/-- what lies outside the method's own cells and is only read -/
def xZ (G : xG) (h : xH) (U : State) (H : Heap) : Prop :=
  (∀ (a : Nat) (b : Nat × (Nat → Int32)), G.2.2 a = some b → va_X a b.1 b.2 U H ∧ ¬ xA h a) ∧ xZs G (xA h) U H
def xR (C : xCt) : Room := { frames := C.2.2.1 + 8, cells := C.2.2.2.1, slots := C.2.2.2.2.1, locals := 64 * C.2.2.1 + 200 }
def xC (C : xCt) (M : xMt) (p : Program) (_ : Env) (s : State) (m : MethodId) (args : Array Value) (_ : List Frame) (meth : Method) (c : Code) : Prop :=
  p.tables.exec = Jvm.exec ∧ c.code = M.2.1 ∧ c.maxLocals = M.2.2.1 ∧ s.vm.findClass M.1.cls = some m.cls ∧ meth.sig.returnType = M.2.2.2.1 ∧ meth.locks = false ∧ meth.name = M.1.name ∧ c.exceptionTable.toList.map (fun h => (h.startPc, h.endPc, h.handlerPc, h.catchType)) = M.2.2.2.2 ∧
  C.1.stackTraces = false ∧ va_K C.2.1.1 xcl (xtys C.2.1) s ∧ (∀ w ∈ xTAB, w.before args s = true) ∧ xRep C.2.1 C.2.2.2.2.2.1 s.heap ∧ xZ C.2.1 C.2.2.2.2.2.1 s s.heap ∧ xT s
def xOut (s : State) (xo : xO) (o : Outcome) (t : State) : Prop := match xo with
  | .inl v => o = .returned v
  | .inr E => ∃ (q : Addr) (ce : Cell), o = .threw q ∧ t.heap[q]? = some ce ∧ ce.vm = .none ∧ s.vm.findClass E = some ce.cls
def xPost (G : xG) (mc ms : Nat) (h0 : xH) (Q : xO → xH → Prop) (s : State) (o : Outcome) (t : State) : Prop :=
  ∃ (xo : xO) (h' : xH), Q xo h' ∧ xOut s xo o t ∧ xRep G h' t.heap ∧ s.WarmedH t.vm ∧ ∃ locs : List Loc, xS h0 s.heap h' t.heap locs ∧ s.sameButNew ({ t with vm := s.vm } : State) locs mc ms
def xEnd (C : xCt) (below : List Frame) (s : State) : State → Prop := fun t => ∃ o, t.status = .running ∧ Ended t below o ∧ xPost C.2.1 C.2.2.2.1 C.2.2.2.2.1 C.2.2.2.2.2.1 C.2.2.2.2.2.2 s o t
def Ex (C : xCt) (M : xMt) (pc : Nat) (L : List (Option Value)) (st : List Value) (h : xH) (k n : Nat) : Prop :=
  ∀ (p : Program) (e : Env) (s : State) (m : MethodId) (args : Array Value) (below : List Frame) (meth : Method) (c : Code), xC C M p e s m args below meth c →
    ∀ (H : Heap) (locs : List Loc) (ls : Array Slot), xL ls M.2.2.1 L → xRep C.2.1 h H → xS C.2.2.2.2.2.1 s.heap h H locs →
      W p C.1 e (xR C) s m args below meth c H locs k n (xEnd C below s) (F0 m pc ls st)
theorem W_mono {p : Program} {l : Launch} {e : Env} {R : Room} {s : State} {m : MethodId} {args : Array Value} {below : List Frame} {meth : Method} {c : Code} {H : Heap} {locs : List Loc} {cells slots : Nat} {Q Q' : State → Prop} {g : JFrame} (h : ∀ t, Q t → Q' t) (k : W p l e R s m args below meth c H locs cells slots Q g) : W p l e R s m args below meth c H locs cells slots Q' g := fun T hT X => by
  obtain ⟨t, a, b⟩ := k T hT X
  exact ⟨t, a, h t b⟩
theorem xA_up {h : xH} {a : Nat} {e0 e : xE} (ha : h.2 a = some e0) (q : Nat) : xA (xup h a e) q ↔ xA h q := by
  unfold xA xup
  by_cases hq : q = a
  · subst hq; simp [ha]
  · simp [hq]
theorem xRep_up {G : xG} {h : xH} {H H1 : Heap} {a : Nat} {e : xE} (hR : xRep G h H) (he : va_at G.1 xcl (a, xv G e) H1) (z : H1.size = H.size) (oq : ∀ q : Nat, q ≠ a → H1[q]? = H[q]?) : xRep G (xup h a e) H1 := by
  refine ⟨z.trans hR.1, fun b e' hb => ?_⟩
  by_cases hq : b = a
  · subst hq
    rw [xup_self] at hb
    cases hb
    exact he
  · rw [xup_ne _ _ hq] at hb
    exact (hR.2 b e' hb).kept (oq b hq)
theorem xS_up {h0 h : xH} {H0 H H1 : Heap} {locs : List Loc} {a i : Nat} {e0 e : xE} (hS : xS h0 H0 h H locs) (ha : h.2 a = some e0) (z : H1.size = H.size) (oq : ∀ q : Nat, q ≠ a → H1[q]? = H[q]?) : xS h0 H0 (xup h a e) H1 (locs ++ [⟨a, i⟩]) := by
  have hA : xA h0 a := hS.2.2.2 a (Or.inl (by rw [ha]; rfl))
  refine ⟨by rw [z]; exact hS.1, fun q h1 h2 => ?_, fun x hx => ?_, fun q hq => hS.2.2.2 q ((xA_up ha q).mp hq)⟩
  · rw [oq q (fun e => h2 (by rw [e]; exact hA))]
    exact hS.2.1 q h1 h2
  · rcases List.mem_append.mp hx with h1 | h1
    · exact hS.2.2.1 x h1
    · rw [List.mem_singleton.mp h1]; exact hA
theorem xRep_new {G : xG} {h : xH} {H H1 : Heap} {e : xE} (hR : xRep G h H) (he : va_at G.1 xcl (h.1, xv G e) H1) (z : H1.size = h.1 + 1) (oq : ∀ q : Nat, q < h.1 → H1[q]? = H[q]?) : xRep G (xnew h e) H1 := by
  refine ⟨z, fun b e' hb => ?_⟩
  by_cases hq : b = h.1
  · subst hq
    simp only [xnew, if_true] at hb
    cases hb
    exact he
  · simp only [xnew, hq, if_false] at hb
    have hl := (hR.2 b e' hb).lt
    rw [hR.1] at hl
    exact (hR.2 b e' hb).kept (oq b hl)
theorem xS_new {G : xG} {h0 h : xH} {H0 H H1 : Heap} {locs : List Loc} {e : xE} (hS : xS h0 H0 h H locs) (hR : xRep G h H) (z : H1.size = h.1 + 1) (oq : ∀ q : Nat, q < h.1 → H1[q]? = H[q]?) : xS h0 H0 (xnew h e) H1 locs := by
  have hA : xA h0 h.1 := hS.2.2.2 h.1 (Or.inr (Nat.le_refl _))
  have hsz := hR.1
  refine ⟨by rw [z, ← hsz]; exact Nat.le_succ_of_le hS.1, fun q h1 h2 => ?_, hS.2.2.1, fun q hq => ?_⟩
  · rw [oq q (by rw [← hsz]; exact Nat.lt_of_lt_of_le h1 hS.1)]
    exact hS.2.1 q h1 h2
  · unfold xA xnew at hq
    by_cases hq2 : q = h.1
    · rw [hq2]; exact hA
    · simp only [hq2, if_false] at hq
      rcases hq with hq | hq
      · exact hS.2.2.2 q (Or.inl hq)
      · exact hS.2.2.2 q (Or.inr (by omega))
/-- a field of the class with the number ci, named by the entry idx of own's pool -/
def xF (own : String) (idx ci kf : Nat) : Prop :=
  ∃ (Cn : String) (T : u_T) (N : Nat) (ref host : String), xcl[ci]? = some (Cn, T, N) ∧ kf < N ∧ (∀ w ∈ u_ws Cn T N, w ∈ xTAB) ∧
    (Cond.fieldLink own idx ref (T kf).2.1 (T kf).2.2.1 ∈ xTAB ∨ Cond.fieldLinkNest own idx ref (T kf).2.1 (T kf).2.2.1 host ∈ xTAB) ∧
    (ref = (T kf).1 ∨ Cond.sameField ref (T kf).1 (T kf).2.1 (T kf).2.2.1 ∈ xTAB)
/-- a field that may be written: of the type ty; final only where its own class's constructor writes it -/
def xFw (own name : String) (idx ci kf : Nat) (ty : FieldType) : Prop :=
  ∃ (Cn : String) (T : u_T) (N : Nat) (ref host : String), xcl[ci]? = some (Cn, T, N) ∧ kf < N ∧ (∀ w ∈ u_ws Cn T N, w ∈ xTAB) ∧
    (∀ k, k < N → ∃ t, parseFieldDescriptor (T k).2.2.1 = some t) ∧ (∀ a, a < N → ∀ b, b < N → a ≠ b → (T a).2.1 ≠ (T b).2.1) ∧ parseFieldDescriptor (T kf).2.2.1 = some ty ∧
    (((T kf).2.2.2 = false ∧ (Cond.fieldLink own idx ref (T kf).2.1 (T kf).2.2.1 ∈ xTAB ∨ Cond.fieldLinkNest own idx ref (T kf).2.1 (T kf).2.2.1 host ∈ xTAB)) ∨
      ((T kf).2.2.2 = true ∧ name = "<init>" ∧ (T kf).1 = own ∧ Cond.fieldLink own idx ref (T kf).2.1 (T kf).2.2.1 ∈ xTAB)) ∧
    (ref = (T kf).1 ∨ Cond.sameField ref (T kf).1 (T kf).2.1 (T kf).2.2.1 ∈ xTAB)
theorem xsame {s : State} {args : Array Value} {ref o n d : String} (hts : ∀ w ∈ xTAB, w.before args s = true) (h : ref = o ∨ Cond.sameField ref o n d ∈ xTAB) (x : ClassId × Class × Nat × Field) (hx : s.fieldFound? o n d = some x) : s.fieldFound? ref n d = some x := by
  rcases h with rfl | h
  · exact hx
  · exact u_same (hts _ h) x hx
section XH
variable {C : xCt} {M : xMt} {pc : Nat} {L : List (Option Value)} {st : List Value} {h : xH} {k n : Nat}
theorem ex_get {idx ci kf a : Nat} {fs : List Value} {v : Value} (hd : decode M.2.1 pc = .ok (.getfield idx, 3)) (hw : xF M.1.cls idx ci kf) (hh : h.2 a = some (.inr (ci, fs))) (hv : fs[kf]? = some v) (kk : Ex C M (pc + 3) L (v :: st) h k n) : Ex C M pc L (.ref a :: st) h k n := by
  intro p e s m args below meth c X H locs ls hL hR hS
  have kk := kk p e s m args below meth c X H locs ls hL hR hS
  obtain ⟨hx, hb, -, hown, -, -, -, -, -, hK, hts, -⟩ := X
  obtain ⟨Cn, T, N, ref, host, hc, hk, hin, hl, hsm⟩ := hw
  have hP : va_P C.2.1.1 xcl [(a, .inr (ci, fs))] H := fun j q hq => by
    cases j with
    | zero => cases hq; exact hR.2 a _ hh
    | succ j => cases hq
  rcases hl with hl | hl
  · exact va_get hx hb hts hin hown hK hP 0 rfl hc kf hk (hts _ hl) (xsame hts hsm) hv hd kk
  · exact va_getN hx hb hts hin hown hK hP 0 rfl hc kf hk (hts _ hl) (xsame hts hsm) hv hd kk
theorem ex_put {idx ci kf a : Nat} {fs fs' : List Value} {v : Value} {ty : FieldType} (hd : decode M.2.1 pc = .ok (.putfield idx, 3)) (hw : xFw M.1.cls M.1.name idx ci kf ty) (hh : h.2 a = some (.inr (ci, fs))) (hn : narrow ty v = v) (hft : fits ty v = true) (hl : kf < fs.length) (hs : fs.set kf v = fs') (kk : Ex C M (pc + 3) L st (xup h a (.inr (ci, fs'))) k n) : Ex C M pc L (v :: .ref a :: st) h k n := by
  subst hs
  intro p e s m args below meth c X H locs ls hL hR hS
  have kk := kk p e s m args below meth c X
  obtain ⟨hx, hb, -, hown, -, -, hmn, -, -, hK, hts, -⟩ := X
  obtain ⟨Cn, T, N, ref, host, hc, hk, hin, hty0, hnm, hdt, hcase, hsm⟩ := hw
  obtain ⟨r, h1, cell, q1, q2, q3, q4⟩ := hR.2 a _ hh
  have hr : r = (Cn, T, N) := Option.some.inj (h1.symm.trans hc)
  subst hr
  have hty1 : ∀ j, j < N → parseFieldDescriptor (T j).2.2.1 = some ((parseFieldDescriptor (T j).2.2.1).getD .int) := fun j hj => by
    obtain ⟨t, ht⟩ := hty0 j hj
    rw [ht]; rfl
  have hap := va_apart (own := M.1.cls) hts hin (fun j => (parseFieldDescriptor (T j).2.2.1).getD .int) hty1 hnm hK hc
  obtain ⟨hS1, hfc, kC, hkC, hkind⟩ := hK.1 ci _ hc
  obtain ⟨cf, kf', fi, f, hi, hsl⟩ := hS1 kf hk
  have hlay := hts _ (hin _ (u_in_lay hk))
  have hst := (u_facts hfc hkC (u_lays hts hin hk) hi).1
  have goal : ∀ H' : Heap, H'[a]? = some (cell.setSlot f.slot v) → H'.size = H.size → (∀ q, q ≠ a → H'[q]? = H[q]?) → W p C.1 e (xR C) s m args below meth c H' (locs ++ [⟨a, f.slot⟩]) k n (xEnd C below s) (F0 m (pc + 3) ls st) := by
    intro H' e1 e2 e3
    rw [hsl] at e1 ⊢
    refine kk H' _ ls hL (xRep_up hR ?_ e2 e3) (xS_up hS hh e2 e3)
    exact ⟨_, hc, t_OB.to (V := updV (vp_V fs) kf v) ⟨_, e1, q2, q3, t_set q4 hap hk v⟩ (fun j _ => vp_updV_set hl v j)⟩
  rcases hcase with ⟨hfin, hl | hl⟩ | ⟨hfin, hinit, hdecl, hl⟩
  · unfold u_lay at hlay
    rw [if_neg (by rw [hfin]; decide)] at hlay
    have h6 := u_store hfc hkC hkind hlay hi hdt hn hft
    exact W.putK hx hb (f := f) ⟨hown, hts _ hl, ⟨_, _, _, xsame hts hsm _ hi⟩, hst⟩ (by rw [q2]; exact h6) q1 q3 (by rw [hsl]; exact k2_hasslot (q4 kf hk)) rfl rfl hd goal
  · unfold u_lay at hlay
    rw [if_neg (by rw [hfin]; decide)] at hlay
    have h6 := u_store hfc hkC hkind hlay hi hdt hn hft
    exact va_WputK hx hb (f := f) hown (hts _ hl) (xsame hts hsm _ hi) hst (by rw [q2]; exact h6) q1 q3 (by rw [hsl]; exact k2_hasslot (q4 kf hk)) rfl rfl hd goal
  · unfold u_lay at hlay
    rw [if_pos hfin] at hlay
    have hcf : m.cls = cf := by
      obtain ⟨_, _, c', _, _, _, -, -, hf', -, -, -, hown2, -⟩ := Cond.laysFinal_spec hlay
      have e1 : c' = cf := by have := hi.symm.trans hf'; simp at this; exact this.1.symm
      rw [hdecl] at hown2
      rw [← e1]; exact Option.some.inj (hown.symm.trans hown2)
    have h6 := u_fits hfc hkC hkind (Or.inr hlay) hi hdt hn hft
    exact W.putFinK hx hb hown (hts _ hl) (xsame hts hsm _ hi) hst hcf (hmn.trans hinit) (by rw [q2]; exact h6) q1 q3 (by rw [hsl]; exact k2_hasslot (q4 kf hk)) rfl rfl hd goal
theorem xone {G : xG} {H : Heap} {a : Nat} {e : xE} (hR : xRep G h H) (hh : h.2 a = some e) : va_P G.1 xcl [(a, xv G e)] H := fun j q hq => by
  cases j with
  | zero => cases hq; exact hR.2 a _ hh
  | succ j => cases hq
theorem ex_iaload {a N j : Nat} {f : Nat → Int32} {i : Int32} (hd : decode M.2.1 pc = .ok (.iaload, 1)) (hh : h.2 a = some (.inl (0, N, .inl f))) (hi : i = nI j) (hj : j < N) (hN : N < 2 ^ 31) (kk : Ex C M (pc + 1) L (.int (f j) :: st) h k n) : Ex C M pc L (.int i :: .ref a :: st) h k n := by
  subst hi
  intro p e s m args below meth c X H locs ls hL hR hS
  have kk := kk p e s m args below meth c X H locs ls hL hR hS
  obtain ⟨hx, hb, -, -, -, -, -, -, -, hK, -⟩ := X
  refine va_iald hx hb hK (xone hR hh) 0 0 rfl rfl (vp_in_nI hj hN) hd ?_
  rw [nI_clamp (by omega)]
  exact kk
theorem ex_laload {a N j : Nat} {f : Nat → Int64} {i : Int32} (hd : decode M.2.1 pc = .ok (.laload, 1)) (hh : h.2 a = some (.inl (1, N, .inr (.inl f)))) (hi : i = nI j) (hj : j < N) (hN : N < 2 ^ 31) (kk : Ex C M (pc + 1) L (.long (f j) :: st) h k n) : Ex C M pc L (.int i :: .ref a :: st) h k n := by
  subst hi
  intro p e s m args below meth c X H locs ls hL hR hS
  have kk := kk p e s m args below meth c X H locs ls hL hR hS
  obtain ⟨hx, hb, -, -, -, -, -, -, -, hK, -⟩ := X
  refine va_lald hx hb hK (xone hR hh) 0 1 rfl rfl (vp_in_nI hj hN) hd ?_
  rw [nI_clamp (by omega)]
  exact kk
theorem ex_aaload {a N j t v : Nat} {Cn : String} {f : Nat → Option Nat} {i : Int32} (hd : decode M.2.1 pc = .ok (.aaload, 1)) (hh : h.2 a = some (.inl (t, N, .inr (.inr (.inr (.inr f)))))) (ht : ∀ G : xG, (xtys G)[t]? = some (G.2.1 t, .object Cn)) (hi : i = nI j) (hj : j < N) (hN : N < 2 ^ 31) (hv : f j = some v) (kk : Ex C M (pc + 1) L (.ref v :: st) h k n) : Ex C M pc L (.int i :: .ref a :: st) h k n := by
  subst hi
  intro p e s m args below meth c X H locs ls hL hR hS
  have kk := kk p e s m args below meth c X H locs ls hL hR hS
  obtain ⟨hx, hb, -, -, -, -, -, -, -, hK, -⟩ := X
  refine va_aldq hx hb hK (xone hR hh) 0 t rfl (ht _) (vp_in_nI hj hN) hd ?_
  rw [nI_clamp (by omega), hv]
  exact kk
theorem ex_alen {a N t : Nat} {y : (Nat → Int32) ⊕ (Nat → Int64) ⊕ (Nat → UInt32) ⊕ (Nat → UInt64) ⊕ (Nat → Option Nat)} {ty : FieldType} (hd : decode M.2.1 pc = .ok (.arraylength, 1)) (hh : h.2 a = some (.inl (t, N, y))) (ht : ∀ G : xG, (xtys G)[t]? = some (G.2.1 t, ty)) (kk : Ex C M (pc + 1) L (.int (nI N) :: st) h k n) : Ex C M pc L (.ref a :: st) h k n := by
  intro p e s m args below meth c X H locs ls hL hR hS
  have kk := kk p e s m args below meth c X H locs ls hL hR hS
  obtain ⟨hx, hb, -, -, -, -, -, -, -, hK, -⟩ := X
  exact va_alen hx hb hK (xone hR hh) 0 t rfl (ht _) rfl hd kk
theorem ex_sld {a N j : Nat} {f : Nat → Int32} {i : Int32} (hd : decode M.2.1 pc = .ok (.iaload, 1)) (hh : C.2.1.2.2 a = some (N, f)) (hi : i = nI j) (hj : j < N) (hN : N < 2 ^ 31) (kk : Ex C M (pc + 1) L (.int (f j) :: st) h k n) : Ex C M pc L (.int i :: .ref a :: st) h k n := by
  subst hi
  intro p e s m args below meth c X H locs ls hL hR hS
  have kk := kk p e s m args below meth c X H locs ls hL hR hS
  obtain ⟨hx, hb, -, -, -, -, -, -, -, hK, -, -, ⟨hZ, -⟩, -⟩ := X
  obtain ⟨hX, hnA⟩ := hZ _ _ hh
  have hlt : a < s.heap.size := by
    obtain ⟨scr, h1, -⟩ := hX
    exact (Array.getElem?_eq_some_iff.mp h1).1
  refine va_sld hx hb hX hlt hnA hS.va (vp_in_nI hj hN) hd ?_
  rw [nI_clamp (by omega)]
  exact kk
theorem ex_slen {a N : Nat} {f : Nat → Int32} (hd : decode M.2.1 pc = .ok (.arraylength, 1)) (hh : C.2.1.2.2 a = some (N, f)) (kk : Ex C M (pc + 1) L (.int (nI N) :: st) h k n) : Ex C M pc L (.ref a :: st) h k n := by
  intro p e s m args below meth c X H locs ls hL hR hS
  have kk := kk p e s m args below meth c X H locs ls hL hR hS
  obtain ⟨hx, hb, -, -, -, -, -, -, -, hK, -, -, ⟨hZ, -⟩, -⟩ := X
  obtain ⟨hX, hnA⟩ := hZ _ _ hh
  have hlt : a < s.heap.size := by
    obtain ⟨scr, h1, -⟩ := hX
    exact (Array.getElem?_eq_some_iff.mp h1).1
  exact va_slen hx hb hX hlt hnA hS.va hd kk
theorem ex_iastore {a N j : Nat} {f : Nat → Int32} {i x : Int32} (hd : decode M.2.1 pc = .ok (.iastore, 1)) (hh : h.2 a = some (.inl (0, N, .inl f))) (hi : i = nI j) (hj : j < N) (hN : N < 2 ^ 31) (kk : Ex C M (pc + 1) L st (xup h a (.inl (0, N, .inl (upd f j x)))) k n) : Ex C M pc L (.int x :: .int i :: .ref a :: st) h k n := by
  subst hi
  intro p e s m args below meth c X H locs ls hL hR hS
  have kk := kk p e s m args below meth c X
  obtain ⟨hx, hb, -, -, -, -, -, -, -, hK, -⟩ := X
  have h0 : H[a]? = some (vp_cell (C.2.1.2.1 0) (N, .inl f)) := hR.2 a _ hh
  refine W.iast hx hb h0 ((hK.2 0 _ rfl).1 N (fun j => .int (f j))) (fun q => by cases q) (by show ¬ (_ ∨ (arrV _ _ _).slots.size ≤ _); rw [arrV_size]; exact vp_in_nI hj hN) rfl rfl hd fun H1 e z oq => ?_
  rw [nI_clamp (by omega)] at e ⊢
  refine kk H1 _ ls hL (xRep_up hR ?_ z oq) (xS_up hS hh z oq)
  show H1[a]? = some (vp_cell _ _)
  rw [e, vp_cell_i, vp_cell_i, arrV_store]
  congr 2
  funext q
  by_cases hq : q = j
  · subst hq
    simp [updV, upd]
  · simp [updV, upd, hq]
theorem ex_lastore {a N j : Nat} {f : Nat → Int64} {i : Int32} {x : Int64} (hd : decode M.2.1 pc = .ok (.lastore, 1)) (hh : h.2 a = some (.inl (1, N, .inr (.inl f)))) (hi : i = nI j) (hj : j < N) (hN : N < 2 ^ 31) (kk : Ex C M (pc + 1) L st (xup h a (.inl (1, N, .inr (.inl (vp_updL f j x))))) k n) : Ex C M pc L (.long x :: .int i :: .ref a :: st) h k n := by
  subst hi
  intro p e s m args below meth c X H locs ls hL hR hS
  have kk := kk p e s m args below meth c X
  obtain ⟨hx, hb, -, -, -, -, -, -, -, hK, -⟩ := X
  have h0 : H[a]? = some (vp_cell (C.2.1.2.1 1) (N, .inr (.inl f))) := hR.2 a _ hh
  refine W.last hx hb h0 ((hK.2 1 _ rfl).1 N (fun j => .long (f j))) (fun q => by cases q) (by show ¬ (_ ∨ (arrV _ _ _).slots.size ≤ _); rw [arrV_size]; exact vp_in_nI hj hN) rfl rfl hd fun H1 e z oq => ?_
  rw [nI_clamp (by omega)] at e ⊢
  refine kk H1 _ ls hL (xRep_up hR ?_ z oq) (xS_up hS hh z oq)
  show H1[a]? = some (vp_cell _ _)
  rw [e, vp_cell_l, vp_cell_l, arrV_store]
  congr 2
  funext q
  by_cases hq : q = j
  · subst hq
    simp [updV, vp_updL]
  · simp [updV, vp_updL, hq]
theorem ex_aastore {a N j t v ci : Nat} {r : vw_C} {vs : List Value} {f : Nat → Option Nat} {i : Int32} (hd : decode M.2.1 pc = .ok (.aastore, 1)) (hh : h.2 a = some (.inl (t, N, .inr (.inr (.inr (.inr f)))))) (ht : ∀ G : xG, (xtys G)[t]? = some (G.2.1 t, .object r.1)) (hv : h.2 v = some (.inr (ci, vs))) (hc : xcl[ci]? = some r) (hi : i = nI j) (hj : j < N) (hN : N < 2 ^ 31) (kk : Ex C M (pc + 1) L st (xup h a (.inl (t, N, .inr (.inr (.inr (.inr (va_up f j (some v)))))))) k n) : Ex C M pc L (.ref v :: .int i :: .ref a :: st) h k n := by
  subst hi
  intro p e s m args below meth c X H locs ls hL hR hS
  have kk := kk p e s m args below meth c X
  obtain ⟨hx, hb, -, -, -, -, -, -, -, hK, -⟩ := X
  have h0 : H[a]? = some (vp_cell (C.2.1.2.1 t) (N, .inr (.inr (.inr (.inr f))))) := hR.2 a _ hh
  obtain ⟨r', hr', cellV, g1, g2, g3, -⟩ := hR.2 v _ hv
  have hcls := (hK.1 ci r hc).2
  obtain ⟨kA, comp, k1, k2, k3, -⟩ := (hK.2 t _ (ht _)).2
  have hcomp : comp = C.2.1.1.1 ci := Option.some.inj (k3.symm.trans hcls.1)
  subst hcomp
  obtain ⟨kC, hkC, -⟩ := hcls.2
  refine W.aast hx hb h0 (fun q h => by cases h) (fun h => by cases h) k1 k2 rfl hkC ⟨nI_pos (by omega), by show _ < (arrV _ _ _).slots.size; rw [arrV_size, nI_clamp (by omega)]; exact hj⟩ g1 (fun q h => by rw [g3] at h; cases h) (by rw [g2]; exact hkC) (by rw [g2]; exact va_assign hcls) rfl rfl hd fun H1 e z oq => ?_
  rw [nI_clamp (by omega)] at e ⊢
  refine kk H1 _ ls hL (xRep_up hR ?_ z oq) (xS_up hS hh z oq)
  show H1[a]? = some (vp_cell _ _)
  rw [e, vp_cell_q, vp_cell_q, arrV_store]
  congr 2
  funext q
  by_cases hq : q = j
  · subst hq
    simp [updV, va_up, va_rf]
  · simp [updV, va_up, hq]
/-- a class that can be made here: its fields begin as fs -/
def xNw (own : String) (idx ci N : Nat) (fs : List Value) : Prop :=
  ∃ (Cn : String) (T : u_T), xcl[ci]? = some (Cn, T, N) ∧ (∀ w ∈ u_ws Cn T N, w ∈ xTAB) ∧ Cond.classLink own idx Cn ∈ xTAB ∧ Cond.instantiable Cn N ∈ xTAB ∧ Cond.initialized Cn ∈ xTAB ∧
    ∀ j, j < N → ∃ t, parseFieldDescriptor (T j).2.2.1 = some t ∧ defaultValue t = vp_V fs j
theorem ex_new {idx ci N : Nat} {fs : List Value} (hd : decode M.2.1 pc = .ok (.new idx, 3)) (hw : xNw M.1.cls idx ci N fs) (hk : k + 1 ≤ C.2.2.2.1) (hn : n + N ≤ C.2.2.2.2.1) (kk : Ex C M (pc + 3) L (.ref h.1 :: st) (xnew h (.inr (ci, fs))) (k + 1) (n + N)) : Ex C M pc L st h k n := by
  intro p e s m args below meth c X H locs ls hL hR hS
  have kk := kk p e s m args below meth c X
  obtain ⟨hx, hb, -, hown, -, -, -, -, -, hK, hts, -⟩ := X
  obtain ⟨Cn, T, hc, hin, hcl, hins, hini, hty⟩ := hw
  have hKn := hK.1 ci _ hc
  refine W.newcK hx hb hown (hts _ hcl) (hts _ hins) (hts _ hini) rfl hd hk hn hKn.2.1 hR.1 fun H1 kC hkC e1 z1 o1 => ?_
  have hty1 : ∀ j, j < N → parseFieldDescriptor (T j).2.2.1 = some ((parseFieldDescriptor (T j).2.2.1).getD .int) := fun j hj => by
    obtain ⟨t, ht, -⟩ := hty j hj
    rw [ht]; rfl
  refine kk H1 locs ls hL (xRep_new hR ?_ z1 o1) (xS_new hS hR z1 o1)
  refine ⟨_, hc, (u_born (fun j => (parseFieldDescriptor (T j).2.2.1).getD .int) hts hin hKn hkC e1 hty1).to (fun j hj => ?_)⟩
  obtain ⟨t, ht, hdv⟩ := hty j hj
  rw [← hdv, ht]; rfl
theorem ex_newi {N : Nat} {i : Int32} (hd : decode M.2.1 pc = .ok (.newarray .int, 2)) (hw : Cond.arrayClass .int ∈ xTAB) (hi : i = nI N) (hN : N < 65536) (hk : k + 1 ≤ C.2.2.2.1) (hn : n + N ≤ C.2.2.2.2.1) (kk : Ex C M (pc + 2) L (.ref h.1 :: st) (xnew h (.inl (0, N, .inl (fun _ => 0)))) (k + 1) (n + N)) : Ex C M pc L (.int i :: st) h k n := by
  subst hi
  intro p e s m args below meth c X H locs ls hL hR hS
  have kk := kk p e s m args below meth c X
  obtain ⟨hx, hb, -, hown, -, -, -, -, -, hK, hts, -⟩ := X
  refine va_newaK (atype := .int) hx hb (hts _ hw) rfl hd rfl (nI_pos (by omega)) (nI_clamp (by omega)) (by show N * 4 ≤ _; omega) hk hn hR.1 fun H1 cA e1 z1 o1 hAr hNm => ?_
  have hcA : cA = C.2.1.2.1 0 := Option.some.inj (hNm.symm.trans (va_nm_int (hK.2 0 _ rfl).2))
  subst hcA
  exact kk H1 locs ls hL (xRep_new hR (by show H1[h.1]? = some (vp_cell _ _); rw [e1, vp_cell_i]; rfl) z1 o1) (xS_new hS hR z1 o1)
theorem ex_newl {N : Nat} {i : Int32} (hd : decode M.2.1 pc = .ok (.newarray .long, 2)) (hw : Cond.arrayClass .long ∈ xTAB) (hi : i = nI N) (hN : N < 65536) (hk : k + 1 ≤ C.2.2.2.1) (hn : n + N ≤ C.2.2.2.2.1) (kk : Ex C M (pc + 2) L (.ref h.1 :: st) (xnew h (.inl (1, N, .inr (.inl (fun _ => 0))))) (k + 1) (n + N)) : Ex C M pc L (.int i :: st) h k n := by
  subst hi
  intro p e s m args below meth c X H locs ls hL hR hS
  have kk := kk p e s m args below meth c X
  obtain ⟨hx, hb, -, hown, -, -, -, -, -, hK, hts, -⟩ := X
  refine va_newaK (atype := .long) hx hb (hts _ hw) rfl hd rfl (nI_pos (by omega)) (nI_clamp (by omega)) (by show N * 8 ≤ _; omega) hk hn hR.1 fun H1 cA e1 z1 o1 hAr hNm => ?_
  have hcA : cA = C.2.1.2.1 1 := Option.some.inj (hNm.symm.trans (va_nm_long (hK.2 1 _ rfl).2))
  subst hcA
  exact kk H1 locs ls hL (xRep_new hR (by show H1[h.1]? = some (vp_cell _ _); rw [e1, vp_cell_l]; rfl) z1 o1) (xS_new hS hR z1 o1)
theorem ex_anew {N t idx : Nat} {i : Int32} {Cn : String} (hd : decode M.2.1 pc = .ok (.anewarray idx, 3)) (hw : Cond.classLink M.1.cls idx Cn ∈ xTAB) (hov : Cond.arrayOver (.object Cn) ∈ xTAB) (ht : ∀ G : xG, (xtys G)[t]? = some (G.2.1 t, .object Cn)) (hi : i = nI N) (hN : N < 65536) (hk : k + 1 ≤ C.2.2.2.1) (hn : n + N ≤ C.2.2.2.2.1) (kk : Ex C M (pc + 3) L (.ref h.1 :: st) (xnew h (.inl (t, N, .inr (.inr (.inr (.inr (fun _ => none))))))) (k + 1) (n + N)) : Ex C M pc L (.int i :: st) h k n := by
  subst hi
  intro p e s m args below meth c X H locs ls hL hR hS
  have kk := kk p e s m args below meth c X
  obtain ⟨hx, hb, -, hown, -, -, -, -, -, hK, hts, -⟩ := X
  have hcl9 : (nI N).toNatClampNeg = N := nI_clamp (by omega)
  refine W.anew hx hb hown (hts _ hw) (hts _ hov) rfl hd rfl (nI_pos (by omega)) (by rw [hcl9]; omega) hk (by rw [hcl9]; exact hn) fun cA kA comp f1 f2 f3 f4 => ?_
  obtain ⟨kA', comp', r1, r2, r3, r4⟩ := (hK.2 t _ (ht _)).2
  have hcA : cA = C.2.1.2.1 t := Option.some.inj (f1.symm.trans r4)
  subst hcA
  rw [hcl9]
  generalize hH1 : H.push ({ cls := C.2.1.2.1 t, slots := Array.replicate N .null, vm := .none } : Cell) = H1
  have z1 : H1.size = h.1 + 1 := by rw [← hH1, Array.size_push, hR.1]
  have e1 : H1[h.1]? = some (arrV (C.2.1.2.1 t) N (fun _ => .null)) := by rw [← hH1, ← hR.1, Array.getElem?_push_size, ← arrV_new]
  have o1 : ∀ q : Nat, q < h.1 → H1[q]? = H[q]? := fun q hq => by rw [← hH1, Array.getElem?_push, if_neg (by rw [hR.1]; exact Nat.ne_of_lt hq)]
  have w := kk H1 locs ls hL (xRep_new hR (by show H1[h.1]? = some (vp_cell _ _); rw [e1, vp_cell_q]; rfl) z1 o1) (xS_new hS hR z1 o1)
  rw [hR.1]
  exact w
/-! ends -/
theorem xfin {p : Program} {e : Env} {s : State} {m : MethodId} {args : Array Value} {below : List Frame} {meth : Method} {c : Code} {H : Heap} {locs : List Loc} {g : JFrame} {v : Option Value} (hR : xRep C.2.1 h H) (hS : xS C.2.2.2.2.2.1 s.heap h H locs) (hk : k ≤ C.2.2.2.1) (hn : n ≤ C.2.2.2.2.1) (hq : C.2.2.2.2.2.2 (.inl v) h)
    (w : W p C.1 e (xR C) s m args below meth c H locs k n (MQ below (fun _ _ o t => o = .returned v ∧ t.heap = H) args s k n (xA C.2.2.2.2.2.1)) g) : W p C.1 e (xR C) s m args below meth c H locs k n (xEnd C below s) g := by
  refine W_mono (fun t ht => ?_) w
  obtain ⟨o, h1, h2, ⟨h3, h4⟩, L9, ⟨-, h5, h6⟩, h7⟩ := ht
  refine ⟨o, h1, h2, .inl v, h, hq, h3, by rw [h4]; exact hR, h5, L9, ⟨by rw [h4]; exact hS.1, by rw [h4]; exact hS.2.1, h7, hS.2.2.2⟩, h6.mono hk hn⟩
theorem ex_iret {v : Int32} (hd : decode M.2.1 pc = .ok (.ireturn, 1)) (hr : M.2.2.2.1 = some .int) (hk : k ≤ C.2.2.2.1) (hn : n ≤ C.2.2.2.2.1) (hq : C.2.2.2.2.2.2 (.inl (some (.int v))) h) : Ex C M pc L [.int v] h k n := by
  intro p e s m args below meth c X H locs ls hL hR hS
  obtain ⟨hx, hb, -, -, hrt, hlk, -⟩ := X
  exact xfin hR hS hk hn hq (W.iret hx hb (hrt.trans hr) (fun t ht _ => ⟨rfl, ht⟩) hS.2.2.1 hd hlk)
theorem ex_zret {v : Int32} (hd : decode M.2.1 pc = .ok (.ireturn, 1)) (hr : M.2.2.2.1 = some .boolean) (hv : v = 0 ∨ v = 1) (hk : k ≤ C.2.2.2.1) (hn : n ≤ C.2.2.2.2.1) (hq : C.2.2.2.2.2.2 (.inl (some (.int v))) h) : Ex C M pc L [.int v] h k n := by
  intro p e s m args below meth c X H locs ls hL hR hS
  obtain ⟨hx, hb, -, -, hrt, hlk, -⟩ := X
  exact xfin hR hS hk hn hq (W.zret hx hb (hrt.trans hr) (by rcases hv with rfl | rfl <;> decide) (fun t ht _ => ⟨rfl, ht⟩) hS.2.2.1 hd hlk)
theorem ex_lret {v : Int64} (hd : decode M.2.1 pc = .ok (.lreturn, 1)) (hr : M.2.2.2.1 = some .long) (hk : k ≤ C.2.2.2.1) (hn : n ≤ C.2.2.2.2.1) (hq : C.2.2.2.2.2.2 (.inl (some (.long v))) h) : Ex C M pc L [.long v] h k n := by
  intro p e s m args below meth c X H locs ls hL hR hS
  obtain ⟨hx, hb, -, -, hrt, hlk, -⟩ := X
  exact xfin hR hS hk hn hq (W.lret hx hb (hrt.trans hr) (fun t ht _ => ⟨rfl, ht⟩) hS.2.2.1 hd hlk)
theorem ex_vret (hd : decode M.2.1 pc = .ok (.return_, 1)) (hr : M.2.2.2.1 = none) (hk : k ≤ C.2.2.2.1) (hn : n ≤ C.2.2.2.2.1) (hq : C.2.2.2.2.2.2 (.inl none) h) : Ex C M pc L [] h k n := by
  intro p e s m args below meth c X H locs ls hL hR hS
  obtain ⟨hx, hb, -, -, hrt, hlk, -⟩ := X
  exact xfin hR hS hk hn hq (W.vret hx hb (hrt.trans hr) (fun t ht _ => ⟨rfl, ht⟩) hS.2.2.1 hd hlk)
theorem ex_aret {v : Nat} {ty : FieldType} (hd : decode M.2.1 pc = .ok (.areturn, 1)) (hr : M.2.2.2.1 = some ty) (hty : (∃ nm, ty = .object nm) ∨ ∃ t, ty = .array t) (hk : k ≤ C.2.2.2.1) (hn : n ≤ C.2.2.2.2.1) (hq : C.2.2.2.2.2.2 (.inl (some (.ref v))) h) : Ex C M pc L [.ref v] h k n := by
  intro p e s m args below meth c X H locs ls hL hR hS
  obtain ⟨hx, hb, -, -, hrt, hlk, -⟩ := X
  exact xfin hR hS hk hn hq (W.aret hx hb (hrt.trans hr) hty (Or.inr ⟨v, rfl⟩) (fun t ht _ => ⟨rfl, ht⟩) hS.2.2.1 hd hlk)
theorem ex_objInit {idx a : Nat} (hd : decode M.2.1 pc = .ok (.invokespecial idx, 3)) (hw : Cond.methodLink M.1.cls idx Lib.objectInit ∈ xTAB) (h1 : Cond.instanceMethod Lib.objectInit ∈ xTAB) (h2 : Cond.code Lib.objectInit ⟨#[0xb1]⟩ 1 none ∈ xTAB) (hst : (st.map fun v => v.category).sum ≤ 16) (kk : Ex C M (pc + 3) L st h k n) : Ex C M pc L (.ref a :: st) h k n := by
  intro p e s m args below meth c X H locs ls hL hR hS
  have kk := kk p e s m args below meth c X H locs ls hL hR hS
  obtain ⟨hx, hb, hml, hown, -, -, -, -, -, hK, hts, -⟩ := X
  exact W.objInit hx hb hown (hts _ hw) (hts _ h1) (hts _ h2) rfl (by rw [hml]; exact hL.1) rfl hd (by show 1 ≤ C.2.2.1 + 8; omega) (by show 2 * 0 + _ + 12 ≤ 64 * C.2.2.1 + 200; omega) kk
end XH
end
section
section XR
variable {C : xCt} {M : xMt} {pc : Nat} {L : List (Option Value)} {st : List Value} {h : xH} {k n : Nat}
theorem ex_iconst {i : Int} {v : Int32} (hd : decode M.2.1 pc = .ok (.iconst i, 1)) (hv : Int32.ofInt i = v) (kk : Ex C M (pc + 1) L (.int v :: st) h k n) : Ex C M pc L (st) h k n :=
  fun p e s m args below meth c X H locs ls hL hR hS => lv_iconst X.1 X.2.1 hd hv (kk p e s m args below meth c X H locs ls hL hR hS)
theorem ex_bipush {i : Int} {v : Int32} (hd : decode M.2.1 pc = .ok (.bipush i, 2)) (hv : (Int8.ofInt i).toInt32 = v) (kk : Ex C M (pc + 2) L (.int v :: st) h k n) : Ex C M pc L (st) h k n :=
  fun p e s m args below meth c X H locs ls hL hR hS => lv_bipush X.1 X.2.1 hd hv (kk p e s m args below meth c X H locs ls hL hR hS)
theorem ex_sipush {i : Int} {v : Int32} (hd : decode M.2.1 pc = .ok (.sipush i, 3)) (hv : (Int16.ofInt i).toInt32 = v) (kk : Ex C M (pc + 3) L (.int v :: st) h k n) : Ex C M pc L (st) h k n :=
  fun p e s m args below meth c X H locs ls hL hR hS => lv_sipush X.1 X.2.1 hd hv (kk p e s m args below meth c X H locs ls hL hR hS)
theorem ex_lconst {i : Fin 2} {v : Int64} (hd : decode M.2.1 pc = .ok (.lconst i, 1)) (hv : Int64.ofNat (i : Nat) = v) (kk : Ex C M (pc + 1) L (.long v :: st) h k n) : Ex C M pc L (st) h k n :=
  fun p e s m args below meth c X H locs ls hL hR hS => lv_lconst X.1 X.2.1 hd hv (kk p e s m args below meth c X H locs ls hL hR hS)
theorem ex_null  (hd : decode M.2.1 pc = .ok (.aconst_null, 1)) (kk : Ex C M (pc + 1) L (.null :: st) h k n) : Ex C M pc L (st) h k n :=
  fun p e s m args below meth c X H locs ls hL hR hS => lv_null X.1 X.2.1 hd (kk p e s m args below meth c X H locs ls hL hR hS)
theorem ex_iload_n {i4 : Fin 4} {x : Int32} (hd : decode M.2.1 pc = .ok (.iload_n i4, 1)) (hl : L[(i4 : Nat)]? = some (some (.int x))) (kk : Ex C M (pc + 1) L (.int x :: st) h k n) : Ex C M pc L (st) h k n :=
  fun p e s m args below meth c X H locs ls hL hR hS => lv_iload_n X.1 X.2.1 hd rfl (hL.2.2 _ _ hl) (kk p e s m args below meth c X H locs ls hL hR hS)
theorem ex_iload {i : Nat} {x : Int32} (hd : decode M.2.1 pc = .ok (.iload i, 2)) (hl : L[i]? = some (some (.int x))) (kk : Ex C M (pc + 2) L (.int x :: st) h k n) : Ex C M pc L (st) h k n :=
  fun p e s m args below meth c X H locs ls hL hR hS => lv_iload X.1 X.2.1 hd (hL.2.2 _ _ hl) (kk p e s m args below meth c X H locs ls hL hR hS)
theorem ex_lload_n {i4 : Fin 4} {x : Int64} (hd : decode M.2.1 pc = .ok (.lload_n i4, 1)) (hl : L[(i4 : Nat)]? = some (some (.long x))) (kk : Ex C M (pc + 1) L (.long x :: st) h k n) : Ex C M pc L (st) h k n :=
  fun p e s m args below meth c X H locs ls hL hR hS => lv_lload_n X.1 X.2.1 hd rfl (hL.2.2 _ _ hl) (kk p e s m args below meth c X H locs ls hL hR hS)
theorem ex_lload {i : Nat} {x : Int64} (hd : decode M.2.1 pc = .ok (.lload i, 2)) (hl : L[i]? = some (some (.long x))) (kk : Ex C M (pc + 2) L (.long x :: st) h k n) : Ex C M pc L (st) h k n :=
  fun p e s m args below meth c X H locs ls hL hR hS => lv_lload X.1 X.2.1 hd (hL.2.2 _ _ hl) (kk p e s m args below meth c X H locs ls hL hR hS)
theorem ex_aload_n {i4 : Fin 4} {x : Nat} (hd : decode M.2.1 pc = .ok (.aload_n i4, 1)) (hl : L[(i4 : Nat)]? = some (some (.ref x))) (kk : Ex C M (pc + 1) L (.ref x :: st) h k n) : Ex C M pc L (st) h k n :=
  fun p e s m args below meth c X H locs ls hL hR hS => lv_aload_n X.1 X.2.1 hd rfl (hL.2.2 _ _ hl) (kk p e s m args below meth c X H locs ls hL hR hS)
theorem ex_aload {i : Nat} {x : Nat} (hd : decode M.2.1 pc = .ok (.aload i, 2)) (hl : L[i]? = some (some (.ref x))) (kk : Ex C M (pc + 2) L (.ref x :: st) h k n) : Ex C M pc L (st) h k n :=
  fun p e s m args below meth c X H locs ls hL hR hS => lv_aload X.1 X.2.1 hd (hL.2.2 _ _ hl) (kk p e s m args below meth c X H locs ls hL hR hS)
theorem ex_istore_n {i4 : Fin 4} {x : Int32} {L' : List (Option Value)} (hd : decode M.2.1 pc = .ok (.istore_n i4, 1)) (hn : (i4 : Nat) < M.2.2.1) (hl : xset1 L (i4 : Nat) (.int x) = L') (kk : Ex C M (pc + 1) L' st h k n) : Ex C M pc L (.int x :: st) h k n := by
  subst hl
  intro p e s m args below meth c X H locs ls hL hR hS
  refine lv_istore_n X.1 X.2.1 hd rfl (xL_has hL) hn rfl (fun ls2 h2 => ?_)
  exact kk p e s m args below meth c X H locs ls2 (xL_of1 h2) hR hS
theorem ex_istore {i : Nat} {x : Int32} {L' : List (Option Value)} (hd : decode M.2.1 pc = .ok (.istore i, 2)) (hn : i < M.2.2.1) (hl : xset1 L i (.int x) = L') (kk : Ex C M (pc + 2) L' st h k n) : Ex C M pc L (.int x :: st) h k n := by
  subst hl
  intro p e s m args below meth c X H locs ls hL hR hS
  refine lv_istore X.1 X.2.1 hd (xL_has hL) hn rfl (fun ls2 h2 => ?_)
  exact kk p e s m args below meth c X H locs ls2 (xL_of1 h2) hR hS
theorem ex_astore_n {i4 : Fin 4} {x : Nat} {L' : List (Option Value)} (hd : decode M.2.1 pc = .ok (.astore_n i4, 1)) (hn : (i4 : Nat) < M.2.2.1) (hl : xset1 L (i4 : Nat) (.ref x) = L') (kk : Ex C M (pc + 1) L' st h k n) : Ex C M pc L (.ref x :: st) h k n := by
  subst hl
  intro p e s m args below meth c X H locs ls hL hR hS
  refine lv_astore_n X.1 X.2.1 hd rfl (xL_has hL) hn rfl (fun ls2 h2 => ?_)
  exact kk p e s m args below meth c X H locs ls2 (xL_of1 h2) hR hS
theorem ex_astore {i : Nat} {x : Nat} {L' : List (Option Value)} (hd : decode M.2.1 pc = .ok (.astore i, 2)) (hn : i < M.2.2.1) (hl : xset1 L i (.ref x) = L') (kk : Ex C M (pc + 2) L' st h k n) : Ex C M pc L (.ref x :: st) h k n := by
  subst hl
  intro p e s m args below meth c X H locs ls hL hR hS
  refine lv_astore X.1 X.2.1 hd (xL_has hL) hn rfl (fun ls2 h2 => ?_)
  exact kk p e s m args below meth c X H locs ls2 (xL_of1 h2) hR hS
theorem ex_lstore_n {i4 : Fin 4} {x : Int64} {L' : List (Option Value)} (hd : decode M.2.1 pc = .ok (.lstore_n i4, 1)) (hn : (i4 : Nat) + 1 < M.2.2.1) (hl : xset2 L (i4 : Nat) (.long x) = L') (kk : Ex C M (pc + 1) L' st h k n) : Ex C M pc L (.long x :: st) h k n := by
  subst hl
  intro p e s m args below meth c X H locs ls hL hR hS
  refine lv_lstore_n X.1 X.2.1 hd rfl (xL_has hL) hn rfl (fun ls2 h2 => ?_)
  exact kk p e s m args below meth c X H locs ls2 (xL_of2 h2) hR hS
theorem ex_lstore {i : Nat} {x : Int64} {L' : List (Option Value)} (hd : decode M.2.1 pc = .ok (.lstore i, 2)) (hn : i + 1 < M.2.2.1) (hl : xset2 L i (.long x) = L') (kk : Ex C M (pc + 2) L' st h k n) : Ex C M pc L (.long x :: st) h k n := by
  subst hl
  intro p e s m args below meth c X H locs ls hL hR hS
  refine lv_lstore X.1 X.2.1 hd (xL_has hL) hn rfl (fun ls2 h2 => ?_)
  exact kk p e s m args below meth c X H locs ls2 (xL_of2 h2) hR hS
theorem ex_iinc {i : Nat} {z : Int} {x v : Int32} {L' : List (Option Value)} (hd : decode M.2.1 pc = .ok (.iinc i z, 3)) (hx : L[i]? = some (some (.int x))) (hv : x + Int32.ofInt z = v) (hn : i < M.2.2.1) (hl : xset1 L i (.int v) = L') (kk : Ex C M (pc + 3) L' st h k n) : Ex C M pc L st h k n := by
  subst hl
  intro p e s m args below meth c X H locs ls hL hR hS
  obtain ⟨j, hj⟩ := xL_ix hx
  refine lv_iinc (k := j) X.1 X.2.1 hd (xL_has hL) hj hv hn rfl (fun ls2 h2 => ?_)
  exact kk p e s m args below meth c X H locs ls2 (xL_of1 h2) hR hS
theorem ex_iadd {x y : Int32} (hd : decode M.2.1 pc = .ok (.iadd, 1)) (kk : Ex C M (pc + 1) L (.int (x + y) :: st) h k n) : Ex C M pc L (.int y :: .int x :: st) h k n :=
  fun p e s m args below meth c X H locs ls hL hR hS => lv_iadd X.1 X.2.1 hd (kk p e s m args below meth c X H locs ls hL hR hS)
theorem ex_isub {x y : Int32} (hd : decode M.2.1 pc = .ok (.isub, 1)) (kk : Ex C M (pc + 1) L (.int (x - y) :: st) h k n) : Ex C M pc L (.int y :: .int x :: st) h k n :=
  fun p e s m args below meth c X H locs ls hL hR hS => lv_isub X.1 X.2.1 hd (kk p e s m args below meth c X H locs ls hL hR hS)
theorem ex_imul {x y : Int32} (hd : decode M.2.1 pc = .ok (.imul, 1)) (kk : Ex C M (pc + 1) L (.int (x * y) :: st) h k n) : Ex C M pc L (.int y :: .int x :: st) h k n :=
  fun p e s m args below meth c X H locs ls hL hR hS => lv_imul X.1 X.2.1 hd (kk p e s m args below meth c X H locs ls hL hR hS)
theorem ex_iand {x y : Int32} (hd : decode M.2.1 pc = .ok (.iand, 1)) (kk : Ex C M (pc + 1) L (.int (x &&& y) :: st) h k n) : Ex C M pc L (.int y :: .int x :: st) h k n :=
  fun p e s m args below meth c X H locs ls hL hR hS => lv_iand X.1 X.2.1 hd (kk p e s m args below meth c X H locs ls hL hR hS)
theorem ex_ior {x y : Int32} (hd : decode M.2.1 pc = .ok (.ior, 1)) (kk : Ex C M (pc + 1) L (.int (x ||| y) :: st) h k n) : Ex C M pc L (.int y :: .int x :: st) h k n :=
  fun p e s m args below meth c X H locs ls hL hR hS => lv_ior X.1 X.2.1 hd (kk p e s m args below meth c X H locs ls hL hR hS)
theorem ex_ixor {x y : Int32} (hd : decode M.2.1 pc = .ok (.ixor, 1)) (kk : Ex C M (pc + 1) L (.int (x ^^^ y) :: st) h k n) : Ex C M pc L (.int y :: .int x :: st) h k n :=
  fun p e s m args below meth c X H locs ls hL hR hS => lv_ixor X.1 X.2.1 hd (kk p e s m args below meth c X H locs ls hL hR hS)
theorem ex_ishl {x y : Int32} (hd : decode M.2.1 pc = .ok (.ishl, 1)) (kk : Ex C M (pc + 1) L (.int (x <<< (y &&& 31)) :: st) h k n) : Ex C M pc L (.int y :: .int x :: st) h k n :=
  fun p e s m args below meth c X H locs ls hL hR hS => lv_ishl X.1 X.2.1 hd (kk p e s m args below meth c X H locs ls hL hR hS)
theorem ex_ishr {x y : Int32} (hd : decode M.2.1 pc = .ok (.ishr, 1)) (kk : Ex C M (pc + 1) L (.int (x >>> (y &&& 31)) :: st) h k n) : Ex C M pc L (.int y :: .int x :: st) h k n :=
  fun p e s m args below meth c X H locs ls hL hR hS => lv_ishr X.1 X.2.1 hd (kk p e s m args below meth c X H locs ls hL hR hS)
theorem ex_ineg {x : Int32} (hd : decode M.2.1 pc = .ok (.ineg, 1)) (kk : Ex C M (pc + 1) L (.int (-x) :: st) h k n) : Ex C M pc L (.int x :: st) h k n :=
  fun p e s m args below meth c X H locs ls hL hR hS => lv_ineg X.1 X.2.1 hd (kk p e s m args below meth c X H locs ls hL hR hS)
theorem ex_idiv {x y : Int32} (hd : decode M.2.1 pc = .ok (.idiv, 1)) (hy : ¬ y = 0) (kk : Ex C M (pc + 1) L (.int (x / y) :: st) h k n) : Ex C M pc L (.int y :: .int x :: st) h k n :=
  fun p e s m args below meth c X H locs ls hL hR hS => lv_idiv X.1 X.2.1 hd hy (kk p e s m args below meth c X H locs ls hL hR hS)
theorem ex_irem {x y : Int32} (hd : decode M.2.1 pc = .ok (.irem, 1)) (hy : ¬ y = 0) (kk : Ex C M (pc + 1) L (.int (x - x / y * y) :: st) h k n) : Ex C M pc L (.int y :: .int x :: st) h k n :=
  fun p e s m args below meth c X H locs ls hL hR hS => lv_irem X.1 X.2.1 hd hy (kk p e s m args below meth c X H locs ls hL hR hS)
theorem ex_ladd {x y : Int64} (hd : decode M.2.1 pc = .ok (.ladd, 1)) (kk : Ex C M (pc + 1) L (.long (x + y) :: st) h k n) : Ex C M pc L (.long y :: .long x :: st) h k n :=
  fun p e s m args below meth c X H locs ls hL hR hS => lv_ladd X.1 X.2.1 hd (kk p e s m args below meth c X H locs ls hL hR hS)
theorem ex_lsub {x y : Int64} (hd : decode M.2.1 pc = .ok (.lsub, 1)) (kk : Ex C M (pc + 1) L (.long (x - y) :: st) h k n) : Ex C M pc L (.long y :: .long x :: st) h k n :=
  fun p e s m args below meth c X H locs ls hL hR hS => lv_lsub X.1 X.2.1 hd (kk p e s m args below meth c X H locs ls hL hR hS)
theorem ex_lmul {x y : Int64} (hd : decode M.2.1 pc = .ok (.lmul, 1)) (kk : Ex C M (pc + 1) L (.long (x * y) :: st) h k n) : Ex C M pc L (.long y :: .long x :: st) h k n :=
  fun p e s m args below meth c X H locs ls hL hR hS => lv_lmul X.1 X.2.1 hd (kk p e s m args below meth c X H locs ls hL hR hS)
theorem ex_land {x y : Int64} (hd : decode M.2.1 pc = .ok (.land, 1)) (kk : Ex C M (pc + 1) L (.long (x &&& y) :: st) h k n) : Ex C M pc L (.long y :: .long x :: st) h k n :=
  fun p e s m args below meth c X H locs ls hL hR hS => lv_land X.1 X.2.1 hd (kk p e s m args below meth c X H locs ls hL hR hS)
theorem ex_lor {x y : Int64} (hd : decode M.2.1 pc = .ok (.lor, 1)) (kk : Ex C M (pc + 1) L (.long (x ||| y) :: st) h k n) : Ex C M pc L (.long y :: .long x :: st) h k n :=
  fun p e s m args below meth c X H locs ls hL hR hS => lv_lor X.1 X.2.1 hd (kk p e s m args below meth c X H locs ls hL hR hS)
theorem ex_lxor {x y : Int64} (hd : decode M.2.1 pc = .ok (.lxor, 1)) (kk : Ex C M (pc + 1) L (.long (x ^^^ y) :: st) h k n) : Ex C M pc L (.long y :: .long x :: st) h k n :=
  fun p e s m args below meth c X H locs ls hL hR hS => lv_lxor X.1 X.2.1 hd (kk p e s m args below meth c X H locs ls hL hR hS)
theorem ex_lcmp {x y : Int64} (hd : decode M.2.1 pc = .ok (.lcmp, 1)) (kk : Ex C M (pc + 1) L (.int (lg_cmp x y) :: st) h k n) : Ex C M pc L (.long y :: .long x :: st) h k n :=
  fun p e s m args below meth c X H locs ls hL hR hS => W.lcmp X.1 X.2.1 hd (kk p e s m args below meth c X H locs ls hL hR hS)
theorem ex_i2l {x : Int32} (hd : decode M.2.1 pc = .ok (.i2l, 1)) (kk : Ex C M (pc + 1) L (.long x.toInt64 :: st) h k n) : Ex C M pc L (.int x :: st) h k n :=
  fun p e s m args below meth c X H locs ls hL hR hS => lv_i2l X.1 X.2.1 hd rfl (kk p e s m args below meth c X H locs ls hL hR hS)
theorem ex_l2i {x : Int64} (hd : decode M.2.1 pc = .ok (.l2i, 1)) (kk : Ex C M (pc + 1) L (.int x.toInt32 :: st) h k n) : Ex C M pc L (.long x :: st) h k n :=
  fun p e s m args below meth c X H locs ls hL hR hS => lv_l2i X.1 X.2.1 hd rfl (kk p e s m args below meth c X H locs ls hL hR hS)
theorem ex_lshl {x : Int64} {y : Int32} (hd : decode M.2.1 pc = .ok (.lshl, 1)) (kk : Ex C M (pc + 1) L (.long (x <<< (y.toInt64 &&& 63)) :: st) h k n) : Ex C M pc L (.int y :: .long x :: st) h k n :=
  fun p e s m args below meth c X H locs ls hL hR hS => lv_lshl X.1 X.2.1 hd rfl (kk p e s m args below meth c X H locs ls hL hR hS)
theorem ex_lshr {x : Int64} {y : Int32} (hd : decode M.2.1 pc = .ok (.lshr, 1)) (kk : Ex C M (pc + 1) L (.long (x >>> (y.toInt64 &&& 63)) :: st) h k n) : Ex C M pc L (.int y :: .long x :: st) h k n :=
  fun p e s m args below meth c X H locs ls hL hR hS => lv_lshr X.1 X.2.1 hd rfl (kk p e s m args below meth c X H locs ls hL hR hS)
theorem ex_dup {v : Value} (hd : decode M.2.1 pc = .ok (.dup, 1)) (hv : v.category = 1) (kk : Ex C M (pc + 1) L (v :: v :: st) h k n) : Ex C M pc L (v :: st) h k n :=
  fun p e s m args below meth c X H locs ls hL hR hS => lv_dup X.1 X.2.1 hd hv (kk p e s m args below meth c X H locs ls hL hR hS)
theorem ex_pop {v : Value} (hd : decode M.2.1 pc = .ok (.pop, 1)) (hv : v.category = 1) (kk : Ex C M (pc + 1) L (st) h k n) : Ex C M pc L (v :: st) h k n :=
  fun p e s m args below meth c X H locs ls hL hR hS => lv_pop X.1 X.2.1 hd hv (kk p e s m args below meth c X H locs ls hL hR hS)
theorem ex_dup_x1 {v w : Value} (hd : decode M.2.1 pc = .ok (.dup_x1, 1)) (hv : v.category = 1) (hw : w.category = 1) (kk : Ex C M (pc + 1) L (v :: w :: v :: st) h k n) : Ex C M pc L (v :: w :: st) h k n :=
  fun p e s m args below meth c X H locs ls hL hR hS => lv_dup_x1 X.1 X.2.1 hd hv hw (kk p e s m args below meth c X H locs ls hL hR hS)
theorem ex_dup_x2 {v w z : Value} (hd : decode M.2.1 pc = .ok (.dup_x2, 1)) (hv : v.category = 1) (hw : w.category = 1) (hz : z.category = 1) (kk : Ex C M (pc + 1) L (v :: w :: z :: v :: st) h k n) : Ex C M pc L (v :: w :: z :: st) h k n :=
  fun p e s m args below meth c X H locs ls hL hR hS => lv_dup_x2 X.1 X.2.1 hd hv hw hz (kk p e s m args below meth c X H locs ls hL hR hS)
theorem ex_dup2 {v w : Value} (hd : decode M.2.1 pc = .ok (.dup2, 1)) (hv : v.category = 1) (hw : w.category = 1) (kk : Ex C M (pc + 1) L (v :: w :: v :: w :: st) h k n) : Ex C M pc L (v :: w :: st) h k n :=
  fun p e s m args below meth c X H locs ls hL hR hS => lv_dup2_11 X.1 X.2.1 hd hv hw (kk p e s m args below meth c X H locs ls hL hR hS)
theorem ex_if_eq {x : Int32} {off : Int} {tgt : Nat} (hd : decode M.2.1 pc = .ok (.ifCond .eq off, 3)) (ht : (pc : Int) + off = (tgt : Int)) (kt : x = 0 → Ex C M tgt L st h k n) (kf : ¬ (x = 0) → Ex C M (pc + 3) L st h k n) : Ex C M pc L (.int x :: st) h k n :=
  fun p e s m args below meth c X H locs ls hL hR hS => lv_if_eq X.1 X.2.1 hd ht (fun q => kt q p e s m args below meth c X H locs ls hL hR hS) (fun q => kf q p e s m args below meth c X H locs ls hL hR hS)
theorem ex_if_ne {x : Int32} {off : Int} {tgt : Nat} (hd : decode M.2.1 pc = .ok (.ifCond .ne off, 3)) (ht : (pc : Int) + off = (tgt : Int)) (kt : ¬ x = 0 → Ex C M tgt L st h k n) (kf : x = 0 → Ex C M (pc + 3) L st h k n) : Ex C M pc L (.int x :: st) h k n :=
  fun p e s m args below meth c X H locs ls hL hR hS => lv_if_ne X.1 X.2.1 hd ht (fun q => kt q p e s m args below meth c X H locs ls hL hR hS) (fun q => kf q p e s m args below meth c X H locs ls hL hR hS)
theorem ex_if_lt {x : Int32} {off : Int} {tgt : Nat} (hd : decode M.2.1 pc = .ok (.ifCond .lt off, 3)) (ht : (pc : Int) + off = (tgt : Int)) (kt : x < 0 → Ex C M tgt L st h k n) (kf : ¬ (x < 0) → Ex C M (pc + 3) L st h k n) : Ex C M pc L (.int x :: st) h k n :=
  fun p e s m args below meth c X H locs ls hL hR hS => lv_if_lt X.1 X.2.1 hd ht (fun q => kt q p e s m args below meth c X H locs ls hL hR hS) (fun q => kf q p e s m args below meth c X H locs ls hL hR hS)
theorem ex_if_ge {x : Int32} {off : Int} {tgt : Nat} (hd : decode M.2.1 pc = .ok (.ifCond .ge off, 3)) (ht : (pc : Int) + off = (tgt : Int)) (kt : 0 ≤ x → Ex C M tgt L st h k n) (kf : ¬ (0 ≤ x) → Ex C M (pc + 3) L st h k n) : Ex C M pc L (.int x :: st) h k n :=
  fun p e s m args below meth c X H locs ls hL hR hS => lv_if_ge X.1 X.2.1 hd ht (fun q => kt q p e s m args below meth c X H locs ls hL hR hS) (fun q => kf q p e s m args below meth c X H locs ls hL hR hS)
theorem ex_if_gt {x : Int32} {off : Int} {tgt : Nat} (hd : decode M.2.1 pc = .ok (.ifCond .gt off, 3)) (ht : (pc : Int) + off = (tgt : Int)) (kt : 0 < x → Ex C M tgt L st h k n) (kf : ¬ (0 < x) → Ex C M (pc + 3) L st h k n) : Ex C M pc L (.int x :: st) h k n :=
  fun p e s m args below meth c X H locs ls hL hR hS => lv_if_gt X.1 X.2.1 hd ht (fun q => kt q p e s m args below meth c X H locs ls hL hR hS) (fun q => kf q p e s m args below meth c X H locs ls hL hR hS)
theorem ex_if_le {x : Int32} {off : Int} {tgt : Nat} (hd : decode M.2.1 pc = .ok (.ifCond .le off, 3)) (ht : (pc : Int) + off = (tgt : Int)) (kt : x ≤ 0 → Ex C M tgt L st h k n) (kf : ¬ (x ≤ 0) → Ex C M (pc + 3) L st h k n) : Ex C M pc L (.int x :: st) h k n :=
  fun p e s m args below meth c X H locs ls hL hR hS => lv_if_le X.1 X.2.1 hd ht (fun q => kt q p e s m args below meth c X H locs ls hL hR hS) (fun q => kf q p e s m args below meth c X H locs ls hL hR hS)
theorem ex_icmp_eq {x y : Int32} {off : Int} {tgt : Nat} (hd : decode M.2.1 pc = .ok (.if_icmp .eq off, 3)) (ht : (pc : Int) + off = (tgt : Int)) (kt : x = y → Ex C M tgt L st h k n) (kf : ¬ (x = y) → Ex C M (pc + 3) L st h k n) : Ex C M pc L (.int y :: .int x :: st) h k n :=
  fun p e s m args below meth c X H locs ls hL hR hS => lv_icmp_eq X.1 X.2.1 hd ht (fun q => kt q p e s m args below meth c X H locs ls hL hR hS) (fun q => kf q p e s m args below meth c X H locs ls hL hR hS)
theorem ex_icmp_ne {x y : Int32} {off : Int} {tgt : Nat} (hd : decode M.2.1 pc = .ok (.if_icmp .ne off, 3)) (ht : (pc : Int) + off = (tgt : Int)) (kt : ¬ x = y → Ex C M tgt L st h k n) (kf : x = y → Ex C M (pc + 3) L st h k n) : Ex C M pc L (.int y :: .int x :: st) h k n :=
  fun p e s m args below meth c X H locs ls hL hR hS => lv_icmp_ne X.1 X.2.1 hd ht (fun q => kt q p e s m args below meth c X H locs ls hL hR hS) (fun q => kf q p e s m args below meth c X H locs ls hL hR hS)
theorem ex_icmp_lt {x y : Int32} {off : Int} {tgt : Nat} (hd : decode M.2.1 pc = .ok (.if_icmp .lt off, 3)) (ht : (pc : Int) + off = (tgt : Int)) (kt : x < y → Ex C M tgt L st h k n) (kf : ¬ (x < y) → Ex C M (pc + 3) L st h k n) : Ex C M pc L (.int y :: .int x :: st) h k n :=
  fun p e s m args below meth c X H locs ls hL hR hS => lv_icmp_lt X.1 X.2.1 hd ht (fun q => kt q p e s m args below meth c X H locs ls hL hR hS) (fun q => kf q p e s m args below meth c X H locs ls hL hR hS)
theorem ex_icmp_ge {x y : Int32} {off : Int} {tgt : Nat} (hd : decode M.2.1 pc = .ok (.if_icmp .ge off, 3)) (ht : (pc : Int) + off = (tgt : Int)) (kt : y ≤ x → Ex C M tgt L st h k n) (kf : ¬ (y ≤ x) → Ex C M (pc + 3) L st h k n) : Ex C M pc L (.int y :: .int x :: st) h k n :=
  fun p e s m args below meth c X H locs ls hL hR hS => lv_icmp_ge X.1 X.2.1 hd ht (fun q => kt q p e s m args below meth c X H locs ls hL hR hS) (fun q => kf q p e s m args below meth c X H locs ls hL hR hS)
theorem ex_icmp_gt {x y : Int32} {off : Int} {tgt : Nat} (hd : decode M.2.1 pc = .ok (.if_icmp .gt off, 3)) (ht : (pc : Int) + off = (tgt : Int)) (kt : y < x → Ex C M tgt L st h k n) (kf : ¬ (y < x) → Ex C M (pc + 3) L st h k n) : Ex C M pc L (.int y :: .int x :: st) h k n :=
  fun p e s m args below meth c X H locs ls hL hR hS => lv_icmp_gt X.1 X.2.1 hd ht (fun q => kt q p e s m args below meth c X H locs ls hL hR hS) (fun q => kf q p e s m args below meth c X H locs ls hL hR hS)
theorem ex_icmp_le {x y : Int32} {off : Int} {tgt : Nat} (hd : decode M.2.1 pc = .ok (.if_icmp .le off, 3)) (ht : (pc : Int) + off = (tgt : Int)) (kt : x ≤ y → Ex C M tgt L st h k n) (kf : ¬ (x ≤ y) → Ex C M (pc + 3) L st h k n) : Ex C M pc L (.int y :: .int x :: st) h k n :=
  fun p e s m args below meth c X H locs ls hL hR hS => lv_icmp_le X.1 X.2.1 hd ht (fun q => kt q p e s m args below meth c X H locs ls hL hR hS) (fun q => kf q p e s m args below meth c X H locs ls hL hR hS)
theorem ex_goto {off : Int} {tgt : Nat} (hd : decode M.2.1 pc = .ok (.goto off, 3)) (ht : (pc : Int) + off = (tgt : Int)) (kk : Ex C M tgt L st h k n) : Ex C M pc L st h k n :=
  fun p e s m args below meth c X H locs ls hL hR hS => lv_goto X.1 X.2.1 hd ht (kk p e s m args below meth c X H locs ls hL hR hS)
theorem ex_tableIn {dflt lo hi : Int} {offs : Array Int} {len : Nat} {x : Int32} {off : Int} {tgt : Nat} (hd : decode M.2.1 pc = .ok (.tableswitch dflt lo hi offs, len)) (h1 : ¬ x.toInt < lo) (h2 : ¬ hi < x.toInt) (ho : offs[(x.toInt - lo).toNat]? = some off) (ht : (pc : Int) + off = (tgt : Int)) (kk : Ex C M tgt L st h k n) : Ex C M pc L (.int x :: st) h k n :=
  fun p e s m args below meth c X H locs ls hL hR hS => lv_tableIn X.1 X.2.1 hd h1 h2 ho ht (kk p e s m args below meth c X H locs ls hL hR hS)
theorem ex_tableOut {dflt lo hi : Int} {offs : Array Int} {len : Nat} {x : Int32} {tgt : Nat} (hd : decode M.2.1 pc = .ok (.tableswitch dflt lo hi offs, len)) (h1 : x.toInt < lo ∨ hi < x.toInt) (ht : (pc : Int) + dflt = (tgt : Int)) (kk : Ex C M tgt L st h k n) : Ex C M pc L (.int x :: st) h k n :=
  fun p e s m args below meth c X H locs ls hL hR hS => lv_tableOut X.1 X.2.1 hd h1 ht (kk p e s m args below meth c X H locs ls hL hR hS)
theorem ex_lookup {dflt : Int} {ps : Array (Int × Int)} {len : Nat} {x : Int32} {off : Int} {tgt : Nat} (hd : decode M.2.1 pc = .ok (.lookupswitch dflt ps, len)) (hp : (ps.toList.zip (ps.toList.drop 1)).all (fun (a, next) => a.1 < next.1) = true) (ho : Op.lookupswitch.offset ps.toList dflt x.toInt = off) (ht : (pc : Int) + off = (tgt : Int)) (kk : Ex C M tgt L st h k n) : Ex C M pc L (.int x :: st) h k n :=
  fun p e s m args below meth c X H locs ls hL hR hS => lv_lookup X.1 X.2.1 hd hp ho ht (kk p e s m args below meth c X H locs ls hL hR hS)
/-- a number on the stack, under another form -/
theorem ex_topi {x y : Int32} (e : x = y) (kk : Ex C M pc L (.int y :: st) h k n) : Ex C M pc L (.int x :: st) h k n := e ▸ kk
end XR
end
section
/-! Contracts over the abstract configuration, and calls. -/
/-- the contract of M for the arguments av over the cells h: it ends; its outcome and its cells then are as Q allows; at most mc cells of ms slots are new -/
def xMet (l : Launch) (G : xG) (M : xMt) (d mc ms : Nat) (av : List Value) (h : xH) (Q : xO → xH → Prop) : Prop :=
  MetFree l M.1 (headSpec [Cond.codeWith M.1 M.2.1 M.2.2.1 M.2.2.2.1 M.2.2.2.2] (xR (l, G, d, mc, ms, h, Q)))
    (fun a U => a = av.toArray ∧ l.stackTraces = false ∧ xK G U ∧ xRep G h U.heap ∧ xZ G h U U.heap) (fun _ _ _ _ _ => True) (fun _ st o t => xPost G mc ms h Q st o t)
def xent : List Value → Nat → List (Option Value)
  | [], n => List.replicate n none
  | .long x :: t, n => some (.long x) :: none :: xent t (n - 2)
  | .double x :: t, n => some (.double x) :: none :: xent t (n - 2)
  | v :: t, n => some v :: xent t (n - 1)
theorem xent_get : ∀ (vs : List Value) (n b i : Nat) (v : Value), (xent vs n)[i]? = some (some v) → (b + i, v) ∈ lv_args b vs
  | [], n, b, i, v, h => by
    rw [xent, List.getElem?_replicate] at h
    split at h <;> simp at h
  | w :: t, n, b, i, v, h => by
    have one : w.category = 1 → (some w :: xent t (n - 1))[i]? = some (some v) → (b + i, v) ∈ lv_args b (w :: t) := by
      intro hc h
      rw [lv_args, if_neg (by omega)]
      cases i with
      | zero => simp at h; subst h; exact List.mem_cons_self
      | succ j =>
        have := xent_get t (n - 1) (b + 1) j v (by simpa using h)
        exact List.mem_cons_of_mem _ (by rw [show b + (j + 1) = b + 1 + j by omega]; exact this)
    have two : w.category = 2 → (some w :: none :: xent t (n - 2))[i]? = some (some v) → (b + i, v) ∈ lv_args b (w :: t) := by
      intro hc h
      rw [lv_args, if_pos hc]
      cases i with
      | zero => simp at h; subst h; exact List.mem_cons_self
      | succ j =>
        cases j with
        | zero => simp at h
        | succ j =>
          have := xent_get t (n - 2) (b + 2) j v (by simpa using h)
          exact List.mem_cons_of_mem _ (by rw [show b + (j + 1 + 1) = b + 2 + j by omega]; exact this)
    cases w with
    | long x => exact two rfl (by simpa [xent] using h)
    | double x => exact two rfl (by simpa [xent] using h)
    | _ => exact one rfl (by simpa [xent] using h)
theorem xK_words {G : xG} {U : State} (h : xK G U) {args : Array Value} : ∀ w ∈ xTAB, w.before args U = true := fun w hw => xwk_at (State.WarmedH.refl U) (xTAB_k w hw) (h.2.1 w hw)
theorem xK_moved {G : xG} {s U : State} (hW : s.WarmedH U.vm) (h : xK G s) : xK G U := ⟨va_K.moved hW.alike h.1, fun w hw => xwk_at hW (xTAB_k w hw) (h.2.1 w hw), xT_moved hW h.2.2⟩
theorem xZ_at {G : xG} {h0 h : xH} {s U : State} {H : Heap} {locs : List Loc} (hZ : xZ G h0 s s.heap) (hS : xS h0 s.heap h H locs) (hvm : s.vm.Alike U.vm) : xZ G h U H := by
  refine ⟨fun a b hb => ?_, ?_⟩
  · obtain ⟨h1, h2⟩ := hZ.1 a b hb
    have hlt : a < s.heap.size := by
      obtain ⟨scr, h1, -⟩ := h1
      exact (Array.getElem?_eq_some_iff.mp h1).1
    exact ⟨va_X.moved hvm (h1.kept (hS.2.1 a hlt h2)), fun q => h2 (hS.2.2.2 a q)⟩
  · exact xZs_narrow (xZs_moved hvm (xZs_kept hZ.2 hS.2.1)) hS.2.2.2
theorem xMet_of {l : Launch} {G : xG} {M : xMt} {d mc ms : Nat} {av : List Value} {h : xH} {Q : xO → xH → Prop} {L : List (Option Value)} (hy : plainName M.1.cls = true) (hlen : (lg_sl av).length ≤ M.2.2.1) (hL : xent av M.2.2.1 = L) (w : Ex (l, G, d, mc, ms, h, Q) M 0 L [] h 0 0) : xMet l G M d mc ms av h Q := by
  refine MetFree.of_bodyS (code := M.2.1) (maxLocals := M.2.2.1) (ret := M.2.2.2.1) hy ?_ ?_
  · intro args s m h hn
    obtain ⟨m9, meth, c, hn9, h1, h2, h3, h4, -, h5, h6, -⟩ := Cond.codeWith_spec (atoms_spec (ws := [Cond.codeWith M.1 M.2.1 M.2.2.1 M.2.2.2.1 M.2.2.2.2]) h _ List.mem_cons_self)
    cases hn.symm.trans hn9
    exact ⟨meth, c, h1, h2, h3, h4, h5, h6⟩
  · intro p e s m args below meth c s₁ B hml hP _
    obtain ⟨rfl, hst, hK, hR, hZ⟩ := hP
    have hh0 : s₁.heap = s.heap := by rw [B.state]; rfl
    have htab : c.exceptionTable.toList.map (fun h => (h.startPc, h.endPc, h.handlerPc, h.catchType)) = M.2.2.2.2 := by
      obtain ⟨m9, meth9, c9, hn9, h1, h2, -, -, h6, -⟩ := Cond.codeWith_spec (atoms_spec (ws := [Cond.codeWith M.1 M.2.1 M.2.2.1 M.2.2.2.1 M.2.2.2.2]) B.pre _ List.mem_cons_self)
      cases Option.some.inj (hn9.symm.trans B.named)
      cases Option.some.inj (h1.symm.trans B.method)
      cases Option.some.inj (h2.symm.trans (Stand.of_body B).code)
      exact h6
    have X : xC (l, G, d, mc, ms, h, Q) M p e s m av.toArray below meth c := ⟨B.exec, B.bytes, hml, findClass_of_methodNamed B.named, B.returns, B.notSynchronized, (name_of_methodNamed B.named B.method).1, htab, hst, hK.1, xK_words hK, hR, hZ, hK.2.2⟩
    have hent := lv_entry av (n := M.2.2.1) hlen
    have hLL : xL ((lg_sl av ++ List.replicate (M.2.2.1 - (lg_sl av).length) Slot.unset).toArray) M.2.2.1 L := by
      refine ⟨hent.1, hent.2.1, fun i v hv => ?_⟩
      rw [← hL] at hv
      have := xent_get av M.2.2.1 0 i v hv
      rw [Nat.zero_add] at this
      exact hent.2.2 (i, v) this
    have hSS : xS h s.heap h s.heap [] := ⟨Nat.le_refl _, fun _ _ _ => rfl, fun x hx => (nomatch hx), fun q hq => hq⟩
    have k := w p e s m av.toArray below meth c X s.heap [] _ hLL hR hSS
    have hee : entryFrame m av.toArray M.2.2.1 = F0 m 0 ((lg_sl av ++ List.replicate (M.2.2.1 - (lg_sl av).length) Slot.unset).toArray) [] := lg_entry_eq ..
    rw [hee]
    obtain ⟨t, a1, o, b1, b2, b3⟩ := k s₁ hh0 (Stand.of_body B)
    exact ⟨t, o, a1, b1, b2, b3⟩
theorem xMet_mono {l : Launch} {G : xG} {M : xMt} {d mc ms : Nat} {av : List Value} {h : xH} {Q Q' : xO → xH → Prop} (hM : xMet l G M d mc ms av h Q) (hq : ∀ o h', Q o h' → Q' o h') : xMet l G M d mc ms av h Q' := by
  intro p e ha hc hk s m args below hf happ hP hK
  obtain ⟨n, o, h1, h2, h3, xo, h', h4, h5⟩ := hM p e ha hc hk s m args below hf happ hP hK
  exact ⟨n, o, h1, h2, h3, xo, h', hq _ _ h4, h5⟩
/-- the method's code is among the words -/
def xCode (M : xMt) : Prop := (Cond.codeWith M.1 M.2.1 M.2.2.1 M.2.2.2.1 M.2.2.2.2 ∈ xTAB ∨ (M.2.2.2.2 = [] ∧ Cond.code M.1 M.2.1 M.2.2.1 M.2.2.2.1 ∈ xTAB)) ∧ Cond.initialized M.1.cls ∈ xTAB ∧ M.2.2.1 ≤ 37
theorem xCode_at {M : xMt} {G : xG} {U : State} {a : Array Value} (h : xCode M) (hK : xK G U) : (Cond.codeWith M.1 M.2.1 M.2.2.1 M.2.2.2.1 M.2.2.2.2).before a U = true := by
  rcases h.1 with h | ⟨h1, h2⟩
  · exact xK_words hK _ h
  · rw [h1]
    have h3 : (Cond.code M.1 M.2.1 M.2.2.1 M.2.2.2.1).before a U = true := xK_words hK _ h2
    simp only [Cond.before, Cond.holds] at h3 ⊢
    rw [← Cond.code_iff_codeWith_nil]
    exact h3
/-- the call itself: from the invocation's note to the return, or to the thrown object -/
theorem xcore {l : Launch} {G : xG} {p : Program} {e : Env} {R : Room} {s : State} {m : MethodId} {args : Array Value} {below : List Frame} {meth : Method} {c : Code} {U : State} {Ls : List Loc} {c0 s0 : Nat}
    (X : Stand p l e R s m args below meth c U Ls c0 s0) {M : xMt} {d mc ms : Nat} {av : List Value} {h : xH} {Q : xO → xH → Prop} (hM : xMet l G M d mc ms av h Q) (hc : xCode M) {g : JFrame} (hg : g.method = m) (hsize : g.locals.size = c.maxLocals) {ig : Instr} {len : Nat} (hdg : decode c.code g.pc = .ok (ig, len))
    (hW : 2 * g.monitorRoom + (g.stack.map fun v => v.category).sum ≤ 16) {mk : MethodId} (hn : U.methodNamed? M.1 = some mk) (hst : l.stackTraces = false) (hK : xK G U) (hR : xRep G h U.heap) (hZ : xZ G h U U.heap)
    (hfr : d + 9 ≤ R.frames) (hlo : 64 * d + 264 ≤ R.locals) (h4 : c0 + mc ≤ R.cells) (h5 : s0 + ms ≤ R.slots) :
    ∃ (xo : xO) (h' : xH) (T' : State) (L : List Loc), Q xo h' ∧ xRep G h' T'.heap ∧ Stand p l e R s m args below meth c T' (Ls ++ L) (c0 + mc) (s0 + ms) ∧ xS h U.heap h' T'.heap L ∧
      (match xo with
        | .inl v => Steps p.tables e below (doInvoke e (U.setTop g) [] mk av.toArray).1 (T'.setTop { g with pc := g.pc + len, stack := v.toList ++ g.stack })
        | .inr E => ∃ (q : Addr) (ce : Cell), T'.heap[q]? = some ce ∧ ce.vm = .none ∧ U.vm.findClass E = some ce.cls ∧ Steps p.tables e below (doInvoke e (U.setTop g) [] mk av.toArray).1 ((T'.setTop g).pushFrame (.throwing q))) := by
  have h2 := xCode_at (a := av.toArray) hc hK
  have h1 : (headSpec [Cond.codeWith M.1 M.2.1 M.2.2.1 M.2.2.2.1 M.2.2.2.2] (xR (l, G, d, mc, ms, h, Q))).pre.before av.toArray U = true := atoms_intro fun w hw => by
    rw [List.mem_singleton.mp hw]; exact h2
  have h3 : (Cond.initialized M.1.cls).before av.toArray U = true := xK_words hK _ hc.2.1
  obtain ⟨m9, methY, cY, hn9, hmY, hcY, -, hlY, -⟩ := Cond.codeWith_spec h2
  cases Option.some.inj (hn9.symm.trans hn)
  obtain ⟨kY, hkY, -⟩ := className_of_methodNamed hn
  have hinitY : kY.init = .initialized := Cond.initialized_spec (findClass_of_methodNamed hn) hkY h3
  have hA : At U g.method c below := by rw [hg]; exact X.here
  have hml := hc.2.2
  have happ : (headSpec [Cond.codeWith M.1 M.2.1 M.2.2.1 M.2.2.2.1 M.2.2.2.2] (xR (l, G, d, mc, ms, h, Q))).appliesLoose M.1 e.platform (U.calling g mk av.toArray) = true :=
    Spec.appliesLoose_calling (g := g) hA hdg hn hkY hinitY
      (X.room_calling (g := g) (R' := xR (l, G, d, mc, ms, h, Q)) hsize hmY hcY (by show d + 8 + 1 ≤ _; omega) (by rw [hlY]; show _ + _ + (64 * d + 200) ≤ _; omega) h4 h5) h1
  obtain ⟨mid, hmid⟩ := hA.above
  have hfr9 : (U.setTop g).frames = (.java g :: mid) ++ below := by rw [State.frames_setTop' g hA.top, hmid]; rfl
  have hPc : av.toArray = av.toArray ∧ l.stackTraces = false ∧ xK G (U.calling g mk av.toArray) ∧ xRep G h (U.calling g mk av.toArray).heap ∧ xZ G h (U.calling g mk av.toArray) (U.calling g mk av.toArray).heap :=
    ⟨rfl, hst, xK_moved (U := U.calling g mk av.toArray) (State.WarmedH.refl U) hK, hR, ⟨fun a b hb => ⟨va_X.moved (U := U.calling g mk av.toArray) (Vm.Alike.refl U.vm) (hZ.1 a b hb).1, (hZ.1 a b hb).2⟩, xZs_moved (U := U.calling g mk av.toArray) (Vm.Alike.refl U.vm) hZ.2⟩⟩
  obtain ⟨o, s₂, hsteps, -, hend, xo, h', hQ, hxo, hR', hW₂, L, hS', hsm⟩ := Steps.callFree hM p X.admits X.cas X.clock (acts := []) hfr9 happ hPc trivial
  rw [State.frames_setTop' g hA.top] at hend
  obtain ⟨g₀, hg0⟩ := Option.isSome_iff_exists.mp hA.top
  obtain ⟨r, hr⟩ := State.topJava?_eq_some.mp hg0
  have hr' : (({ U with heap := s₂.heap, slotsUsed := s₂.slotsUsed } : State).setVm s₂.vm).frames = .java g₀ :: r := hr
  have hsm' : (U.calling g mk av.toArray).sameButNew ({ s₂ with vm := (U.calling g mk av.toArray).vm } : State) L mc ms := hsm
  obtain ⟨e2, q2, q3, q4, q5, q6⟩ := hsm'
  have e3 : s₂ = ({ (U.calling g mk av.toArray).setFrames s₂.frames with heap := s₂.heap, slotsUsed := s₂.slotsUsed } : State).setVm s₂.vm := by
    have : s₂ = ({ s₂ with vm := (U.calling g mk av.toArray).vm } : State).setVm s₂.vm := rfl
    rw [e2] at this
    exact this
  have hW' : U.WarmedH s₂.vm := hW₂
  have hsame : U.sameButNew ({ U with heap := s₂.heap, slotsUsed := s₂.slotsUsed } : State) L mc ms := by
    refine ⟨?_, q2, q3, q4, q5, q6⟩
    obtain ⟨t, ht, -⟩ := State.frames_cons hr
    show ({ U with heap := s₂.heap, slotsUsed := s₂.slotsUsed } : State) = { U.setFrames U.frames with heap := s₂.heap, slotsUsed := s₂.slotsUsed }
    rw [State.setFrames_self ht]
  have X' : Stand p l e R s m args below meth c (({ U with heap := s₂.heap, slotsUsed := s₂.slotsUsed } : State).setVm s₂.vm) (Ls ++ L) (c0 + mc) (s0 + ms) :=
    ⟨X.admits, X.cas, X.clock, X.frames, X.room, X.hears, X.method, X.code, by have := (X.here.setHeapUsed s₂.heap s₂.slotsUsed).setVm hW'.alike; exact this, X.tail, State.WarmedH.trans X.warmed hW', X.limits, X.bytes, X.same.trans (hsame.setVm s.vm)⟩
  refine ⟨xo, h', (({ U with heap := s₂.heap, slotsUsed := s₂.slotsUsed } : State).setVm s₂.vm), L, hQ, hR', X', hS', ?_⟩
  cases xo with
  | inl v =>
    have ho : o = .returned v := hxo
    subst ho
    obtain ⟨c₂, i₂, len₂, hc₂, hd₂, hf₂⟩ := hend
    have hcc : c₂ = c := by
      have h1 : s₂.code? g.method = U.code? g.method := by
        rw [State.code?_eq, State.code?_eq, hW'.alike.method?]
      exact Option.some.inj (hc₂.symm.trans (h1.trans hA.code))
    subst hcc
    have hlen : len₂ = len := by rw [hdg] at hd₂; cases hd₂; rfl
    subst hlen
    have hs₂ : s₂ = (({ U with heap := s₂.heap, slotsUsed := s₂.slotsUsed } : State).setVm s₂.vm).setTop { g with pc := g.pc + len₂, stack := v.toList ++ g.stack } := by
      refine e3.trans ?_
      rw [hf₂, State.calling_eq hA.top, State.setFrames_setFrames, State.setTop_of_frames _ hr', hr]
      rfl
    show Steps p.tables e below _ ((({ U with heap := s₂.heap, slotsUsed := s₂.slotsUsed } : State).setVm s₂.vm).setTop { g with pc := g.pc + len₂, stack := v.toList ++ g.stack })
    rw [← hs₂]
    exact hsteps
  | inr E =>
    obtain ⟨q, ce, ho, hce, hcv, hcl⟩ := hxo
    subst ho
    have hf₂ : s₂.frames = .throwing q :: .java g :: U.frames.tail := hend
    have hs₂ : s₂ = ((({ U with heap := s₂.heap, slotsUsed := s₂.slotsUsed } : State).setVm s₂.vm).setTop g).pushFrame (.throwing q) := by
      refine e3.trans ?_
      rw [hf₂, State.calling_eq hA.top, State.setFrames_setFrames, State.pushFrame, State.frames_setTop _ hr', State.setTop_of_frames _ hr', State.setFrames_setFrames, hr]
      rfl
    refine ⟨q, ce, hce, hcv, hcl, ?_⟩
    show Steps p.tables e below _ (((({ U with heap := s₂.heap, slotsUsed := s₂.slotsUsed } : State).setVm s₂.vm).setTop g).pushFrame (.throwing q))
    rw [← hs₂]
    exact hsteps
theorem xS_trans {h0 h h' : xH} {H0 H H' : Heap} {locs L : List Loc} (h1 : xS h0 H0 h H locs) (h2 : xS h H h' H' L) : xS h0 H0 h' H' (locs ++ L) := by
  refine ⟨Nat.le_trans h1.1 h2.1, fun q hq hn => ?_, fun x hx => ?_, fun q hq => h1.2.2.2 q (h2.2.2.2 q hq)⟩
  · rw [h2.2.1 q (Nat.lt_of_lt_of_le hq h1.1) (fun z => hn (h1.2.2.2 q z))]
    exact h1.2.1 q hq hn
  · rcases List.mem_append.mp hx with h | h
    · exact h1.2.2.1 x h
    · exact h1.2.2.2 _ (h2.2.2.1 x h)
/-- the frame at pc, with an object of the class E thrown over it -/
def ExX (C : xCt) (M : xMt) (pc : Nat) (L : List (Option Value)) (st : List Value) (E : String) (h : xH) (k n : Nat) : Prop :=
  ∀ (p : Program) (e : Env) (s : State) (m : MethodId) (args : Array Value) (below : List Frame) (meth : Method) (c : Code), xC C M p e s m args below meth c →
    ∀ (H : Heap) (locs : List Loc) (ls : Array Slot), xL ls M.2.2.1 L → xRep C.2.1 h H → xS C.2.2.2.2.2.1 s.heap h H locs →
      ∀ (q : Addr) (ce : Cell), H[q]? = some ce → ce.vm = .none → s.vm.findClass E = some ce.cls →
        ∀ T : State, T.heap = H → Stand p C.1 e (xR C) s m args below meth c T locs k n → ∃ t, Steps p.tables e below ((T.setTop (F0 m pc ls st)).pushFrame (.throwing q)) t ∧ xEnd C below s t
def xGo (C : xCt) (M : xMt) (pc : Nat) (M' : xMt) (av rest st : List Value) (h : xH) (k n : Nat) : Prop :=
  ∀ (p : Program) (e : Env) (s : State) (m : MethodId) (args : Array Value) (below : List Frame) (meth : Method) (c : Code), xC C M p e s m args below meth c →
    ∀ (H : Heap) (locs : List Loc) (ls : Array Slot), xRep C.2.1 h H → ∀ T : State, T.heap = H → Stand p C.1 e (xR C) s m args below meth c T locs k n →
      ∃ (mk : MethodId) (vm₁ : Vm), s.methodNamed? M'.1 = some mk ∧ s.WarmedH vm₁ ∧ Stand p C.1 e (xR C) s m args below meth c (T.setVm vm₁) locs k n ∧
        ∀ target, (∀ acts, Steps p.tables e below (doInvoke e ((T.setVm vm₁).setTop (F0 m pc ls rest)) acts mk av.toArray).1 target) → Steps p.tables e below (T.setTop (F0 m pc ls st)) target
section XCALL
variable {C : xCt} {M : xMt} {pc : Nat} {L : List (Option Value)} {st : List Value} {h : xH} {k n : Nat}
theorem ex_call {M' : xMt} {d' mc' ms' : Nat} {av rest : List Value} {Q' : xO → xH → Prop} {ig : Instr} (hd : decode M.2.1 pc = .ok (ig, 3)) (go : xGo C M pc M' av rest st h k n) (hc : xCode M') (hM : xMet C.1 C.2.1 M' d' mc' ms' av h Q') (hdd : d' + 1 ≤ C.2.2.1) (hw : (rest.map fun v => v.category).sum ≤ 16) (hk : k + mc' ≤ C.2.2.2.1) (hn : n + ms' ≤ C.2.2.2.2.1)
    (kk : ∀ (v : Option Value) (h' : xH), Q' (.inl v) h' → Ex C M (pc + 3) L (v.toList ++ rest) h' (k + mc') (n + ms')) (kx : ∀ (E : String) (h' : xH), Q' (.inr E) h' → ExX C M pc L rest E h' (k + mc') (n + ms')) : Ex C M pc L st h k n := by
  intro p e s m args below meth c X H locs ls hL hR hS T hT XS
  obtain ⟨mk, vm₁, hnm, hW1, X1, stp⟩ := go p e s m args below meth c X H locs ls hR T hT XS
  have XX := X
  obtain ⟨hx, hb, hml, hown, -, -, -, -, hstt, hK, hts, hR0, hZ0, hT0⟩ := X
  have hKs : xK C.2.1 s := ⟨hK, fun w hw => xwk_at (State.WarmedH.refl s) (xTAB_k w hw) (hts w hw), hT0⟩
  have hK1 : xK C.2.1 (T.setVm vm₁) := xK_moved hW1 hKs
  have hR1 : xRep C.2.1 h (T.setVm vm₁).heap := by show xRep _ _ T.heap; rw [hT]; exact hR
  have hZ1 : xZ C.2.1 h (T.setVm vm₁) (T.setVm vm₁).heap := by show xZ _ _ _ T.heap; rw [hT]; exact xZ_at hZ0 hS hW1.alike
  obtain ⟨xo, h', T', L9, hQ, hR', X', hS', hst9⟩ := xcore X1 hM hc (g := F0 m pc ls rest) rfl (hL.1.trans hml.symm) (by rw [hb]; exact hd) (by show 2 * 0 + (rest.map fun v => v.category).sum ≤ 16; omega) (X1.named hnm) hstt hK1 hR1 hZ1 (by show _ ≤ C.2.2.1 + 8; omega) (by show _ ≤ 64 * C.2.2.1 + 200; omega) hk hn
  have hTH : (T.setVm vm₁).heap = H := hT
  rw [hTH] at hS'
  have hSn := xS_trans hS hS'
  cases xo with
  | inl v =>
    obtain ⟨t, a, b⟩ := kk v h' hQ p e s m args below meth c XX T'.heap (locs ++ L9) ls hL hR' hSn T' rfl X'
    exact ⟨t, stp t (fun acts => by rw [doInvoke_state]; exact hst9.trans a), b⟩
  | inr E =>
    obtain ⟨q, ce, hce, hcv, hcl, hs9⟩ := hst9
    have hcl' : s.vm.findClass E = some ce.cls := by
      have h1 : vm₁.findClass E = some ce.cls := hcl
      rw [hW1.alike.findClass] at h1
      exact h1
    obtain ⟨t, a, b⟩ := kx E h' hQ p e s m args below meth c XX T'.heap (locs ++ L9) ls hL hR' hSn q ce hce hcv hcl' T' rfl X'
    exact ⟨t, (stp _ (fun acts => by rw [doInvoke_state]; exact hs9)).trans a, b⟩
/-- a call of which Q' allows no throw -/
theorem ex_callR {M' : xMt} {d' mc' ms' : Nat} {av rest : List Value} {Q' : xO → xH → Prop} {ig : Instr} (hd : decode M.2.1 pc = .ok (ig, 3)) (go : xGo C M pc M' av rest st h k n) (hc : xCode M') (hM : xMet C.1 C.2.1 M' d' mc' ms' av h Q') (hdd : d' + 1 ≤ C.2.2.1) (hw : (rest.map fun v => v.category).sum ≤ 16) (hk : k + mc' ≤ C.2.2.2.1) (hn : n + ms' ≤ C.2.2.2.2.1)
    (hx : ∀ (E : String) (h' : xH), ¬ Q' (.inr E) h') (kk : ∀ (v : Option Value) (h' : xH), Q' (.inl v) h' → Ex C M (pc + 3) L (v.toList ++ rest) h' (k + mc') (n + ms')) : Ex C M pc L st h k n :=
  ex_call hd go hc hM hdd hw hk hn kk (fun E h' q => absurd q (hx E h'))
end XCALL
/-! how the callee is found -/
/-- invokevirtual, on an object of the class ci itself; or of a private method of a nest mate -/
def xVi (own : String) (idx : Nat) (M' : xMt) (ci : Nat) : Prop :=
  ∃ (Cn : String) (T : u_T) (N : Nat), xcl[ci]? = some (Cn, T, N) ∧ (Cond.methodLink own idx M'.1 ∈ xTAB ∨ ∃ host, Cond.methodLinkNest own idx M'.1 host ∈ xTAB) ∧ Cond.instanceMethod M'.1 ∈ xTAB ∧ Cond.selects Cn M'.1 M'.1 ∈ xTAB ∧ (M'.1.cls ≠ "java/lang/invoke/MethodHandle" ∧ M'.1.cls ≠ "java/lang/invoke/VarHandle")
/-- invokevirtual of a method that the reference names as x, declared by owner, and the class ci has as M' -/
def xUi (own : String) (idx : Nat) (M' : xMt) (ci : Nat) : Prop :=
  ∃ (Cn : String) (T : u_T) (N : Nat) (x : MethodName) (owner : String), xcl[ci]? = some (Cn, T, N) ∧ Cond.methodLink own idx x ∈ xTAB ∧ Cond.sameMethod x.cls owner x.name x.desc ∈ xTAB ∧ x.desc = M'.1.desc ∧
    (Cond.declares ⟨owner, x.name, x.desc⟩ ∈ xTAB ∨ (M'.1 = ⟨owner, x.name, x.desc⟩)) ∧ (owner ≠ "java/lang/invoke/MethodHandle" ∧ owner ≠ "java/lang/invoke/VarHandle") ∧ Cond.selects Cn x M'.1 ∈ xTAB ∧ Cond.instanceMethod M'.1 ∈ xTAB
def xIi (own : String) (idx : Nat) (M' : xMt) : Prop :=
  (Cond.methodLink own idx M'.1 ∈ xTAB ∨ ∃ host, Cond.methodLinkNest own idx M'.1 host ∈ xTAB) ∧ Cond.instanceMethod M'.1 ∈ xTAB ∧ M'.1.name = "<init>" ∧ (M'.1.cls ≠ "java/lang/invoke/MethodHandle" ∧ M'.1.cls ≠ "java/lang/invoke/VarHandle") ∧ M'.2.2.2.1 = none ∧ M'.2.2.2.2 = [] ∧ Cond.code M'.1 M'.2.1 M'.2.2.1 M'.2.2.2.1 ∈ xTAB
def xSi (own : String) (idx : Nat) (M' : xMt) : Prop :=
  (Cond.methodLink own idx M'.1 ∈ xTAB ∨ ∃ host, Cond.methodLinkNest own idx M'.1 host ∈ xTAB) ∧ Cond.static M'.1 ∈ xTAB ∧ (M'.1.cls ≠ "java/lang/invoke/MethodHandle" ∧ M'.1.cls ≠ "java/lang/invoke/VarHandle")
def xAr (M' : xMt) (j : Nat) : Prop := (parseMethodDescriptor M'.1.desc).map (fun d => d.parameters.length) = some j
theorem xAr_len {M' : xMt} {j : Nat} (h : xAr M' j) : ∀ sig, parseMethodDescriptor M'.1.desc = some sig → j = sig.parameters.length := fun sig hs => by
  unfold xAr at h
  rw [hs] at h
  exact (Option.some.inj h).symm
section XGO
variable {C : xCt} {M : xMt} {pc : Nat} {h : xH} {k n : Nat} {rest : List Value}
theorem xC_K {p : Program} {e : Env} {s : State} {m : MethodId} {args : Array Value} {below : List Frame} {meth : Method} {c : Code} (X : xC C M p e s m args below meth c) : xK C.2.1 s := ⟨X.2.2.2.2.2.2.2.2.2.1, fun w hw => xwk_at (State.WarmedH.refl s) (xTAB_k w hw) (X.2.2.2.2.2.2.2.2.2.2.1 w hw), X.2.2.2.2.2.2.2.2.2.2.2.2.2⟩
theorem go_v {idx ci b : Nat} {fs As : List Value} {M' : xMt} {j : Nat} (hd : decode M.2.1 pc = .ok (.invokevirtual idx, 3)) (hi : xVi M.1.cls idx M' ci) (hc : xCode M') (ha : xAr M' j) (hb : h.2 b = some (.inr (ci, fs))) (hj : As.length = j) : xGo C M pc M' (.ref b :: As) rest (As.reverse ++ .ref b :: rest) h k n := by
  intro p e s m args below meth c X H locs ls hR T hT XS
  have hKs := xC_K X
  obtain ⟨hx, hb9, hml, hown, -, -, -, -, hstt, hK, hts, -⟩ := X
  obtain ⟨Cn, Tt, N, hcl, hlink, hinst, hsel, hy⟩ := hi
  obtain ⟨mk, methM, hnamed, hmethM, hstM, habM⟩ := Cond.instanceMethod_spec (hts _ hinst)
  obtain ⟨m8, methM', cM, hn8, hmethM', -, -, -, -, -, -, hsigM⟩ := Cond.codeWith_spec (xCode_at (a := args) hc hKs)
  cases Option.some.inj (hn8.symm.trans hnamed)
  cases hmethM.symm.trans hmethM'
  obtain ⟨c2, r2, m2, q1, q2, q3, q4, kP, hkP, hkPi⟩ := Cond.selects_spec (hts _ hsel)
  obtain ⟨r, h1, cellB, g1, g2, g3, -⟩ := hR.2 b _ hb
  have hcls : s.vm.findClass Cn = some cellB.cls := by rw [g2]; exact (hK.1 ci _ hcl).2.1
  cases hcls.symm.trans q1
  cases (State.methodFound?_of_named hnamed hy).symm.trans q2
  cases hnamed.symm.trans q3
  have hselP : selectMethod e.platform s.vm cellB.cls mk = .method mk := by rw [Launch.admits_selectMethod XS.admits]; exact q4
  have hcell : T.heap[b]? = some cellB := by rw [hT]; exact g1
  have hlen := hj.trans (xAr_len ha _ hsigM)
  rcases hlink with hlink | ⟨host, hlink⟩
  · obtain ⟨vm₁, X₁, hstep₁⟩ := XS.invokevirtual hx hown (hts _ hlink) hnamed hmethM hstM hkP hkPi hy (a := b) (cell := cellB) hcell
      (fun z hz => by rw [g3] at hz; cases hz) hselP hmethM habM hkP hkPi (g := F0 m pc ls (As.reverse ++ .ref b :: rest)) rfl (argsL := As) (rest := rest) hlen rfl (by rw [hb9]; exact hd)
    exact ⟨mk, vm₁, hnamed, X₁.warmed, X₁, hstep₁⟩
  · obtain ⟨vm₁, X₁, hstep₁⟩ := XS.invokevirtualNest hx hown (hts _ hlink) hnamed hmethM hstM hkP hkPi hy (a := b) (cell := cellB) hcell
      (fun z hz => by rw [g3] at hz; cases hz) hselP hmethM habM hkP hkPi (g := F0 m pc ls (As.reverse ++ .ref b :: rest)) rfl (argsL := As) (rest := rest) hlen rfl (by rw [hb9]; exact hd)
    exact ⟨mk, vm₁, hnamed, X₁.warmed, X₁, hstep₁⟩
theorem go_u {idx ci b : Nat} {fs As : List Value} {M' : xMt} {j : Nat} (hd : decode M.2.1 pc = .ok (.invokevirtual idx, 3)) (hi : xUi M.1.cls idx M' ci) (hc : xCode M') (ha : xAr M' j) (hb : h.2 b = some (.inr (ci, fs))) (hj : As.length = j) : xGo C M pc M' (.ref b :: As) rest (As.reverse ++ .ref b :: rest) h k n := by
  intro p e s m args below meth c X H locs ls hR T hT XS
  have hKs := xC_K X
  obtain ⟨hx, hb9, hml, hown, -, -, -, -, hstt, hK, hts, -⟩ := X
  obtain ⟨Cn, Tt, N, x9, owner, hcl, hlink, hsame, hdesc, hdecl, howner, hsel, hinst⟩ := hi
  obtain ⟨mk, methM, hnamed, hmethM, hstM, habM⟩ := Cond.instanceMethod_spec (hts _ hinst)
  obtain ⟨m8, methM', cM, hn8, hmethM', -, -, -, -, -, -, hsigM⟩ := Cond.codeWith_spec (xCode_at (a := args) hc hKs)
  cases Option.some.inj (hn8.symm.trans hnamed)
  cases hmethM.symm.trans hmethM'
  have hd0 : va_Decl s ⟨owner, x9.name, x9.desc⟩ := by
    rcases hdecl with h1 | h1
    · obtain ⟨m5, meth5, g1, g2, g3, g4⟩ := Cond.declares_spec (hts _ h1)
      exact ⟨m5, meth5, g1, g2, g3, g4⟩
    · rw [← h1]
      exact ⟨mk, methM, hnamed, hmethM, hstM, hsigM⟩
  obtain ⟨r0, r, hn, hrm, hstR, hsigR⟩ := hd0
  obtain ⟨cn, ck, r1, hcn, hck, hni, hf, hn1⟩ := Cond.sameMethod_found (hts _ hsame)
  cases hn.symm.trans hn1
  obtain ⟨c2, r2, m2, q1, q2, q3, q4, kP, hkP, hkPi⟩ := Cond.selects_spec (hts _ hsel)
  obtain ⟨r9, h1, cellB, g1, g2, g3, -⟩ := hR.2 b _ hb
  have hcls : s.vm.findClass Cn = some cellB.cls := by rw [g2]; exact (hK.1 ci _ hcl).2.1
  cases hcls.symm.trans q1
  cases hf.symm.trans q2
  cases hnamed.symm.trans q3
  have hselP : selectMethod e.platform s.vm cellB.cls r0 = .method mk := by rw [Launch.admits_selectMethod XS.admits]; exact q4
  have hcell : T.heap[b]? = some cellB := by rw [hT]; exact g1
  have hlen : As.length = r.sig.parameters.length := hj.trans (xAr_len ha _ (by rw [← hdesc]; exact hsigR))
  obtain ⟨vm₁, X₁, hstep₁⟩ := XS.invokevirtualUp hx hown (hts _ hlink) (hts _ hsame) howner hn hrm hstR (a := b) (cell := cellB) hcell
    (fun z hz => by rw [g3] at hz; cases hz) hselP hmethM habM hkP hkPi (g := F0 m pc ls (As.reverse ++ .ref b :: rest)) rfl (argsL := As) (rest := rest) hlen rfl (by rw [hb9]; exact hd)
  exact ⟨mk, vm₁, hnamed, X₁.warmed, X₁, hstep₁⟩
theorem go_i {idx b : Nat} {As : List Value} {M' : xMt} {j : Nat} (hd : decode M.2.1 pc = .ok (.invokespecial idx, 3)) (hi : xIi M.1.cls idx M') (ha : xAr M' j) (hj : As.length = j) : xGo C M pc M' (.ref b :: As) rest (As.reverse ++ .ref b :: rest) h k n := by
  intro p e s m args below meth c X H locs ls hR T hT XS
  obtain ⟨hx, hb9, hml, hown, -, -, -, -, hstt, hK, hts, -⟩ := X
  obtain ⟨hlink, hinst, hy1, hy, hr9, hh9, hcode⟩ := hi
  have hpl : e.platform.magicAccessors = ({} : Platform).magicAccessors := by rw [XS.admits.platform]
  have hcd : (Cond.code M'.1 M'.2.1 M'.2.2.1 none).before args s = true := by rw [← hr9]; exact hts _ hcode
  have hlen : ∀ sig, parseMethodDescriptor M'.1.desc = some sig → As.length = sig.parameters.length := fun sig hs => hj.trans (xAr_len ha _ hs)
  rcases hlink with hlink | ⟨host, hlink⟩
  · obtain ⟨mk, methM, cM, kP, vm₁, hnamed, hmethM, hcodeM, -, hlocalsM, -, hkP, -, hW₁, hstep₁⟩ := Steps.initColdArgs (e := e) XS.here hx XS.warmed hpl hown hy1 hy (hts _ hlink) (hts _ hinst) hcd (f := F0 m pc ls (As.reverse ++ .ref b :: rest)) rfl hlen rfl (by rw [hb9]; exact hd)
    exact ⟨mk, vm₁, hnamed, hW₁, XS.noted hW₁, hstep₁⟩
  · obtain ⟨mk, methM, cM, kP, vm₁, hnamed, hmethM, hcodeM, -, hlocalsM, -, hkP, -, hW₁, hstep₁⟩ := Steps.initColdArgsNest (e := e) XS.here hx XS.warmed hpl hown hy1 hy (hts _ hlink) (hts _ hinst) hcd (f := F0 m pc ls (As.reverse ++ .ref b :: rest)) rfl hlen rfl (by rw [hb9]; exact hd)
    exact ⟨mk, vm₁, hnamed, hW₁, XS.noted hW₁, hstep₁⟩
theorem go_s {idx : Nat} {As : List Value} {M' : xMt} {j : Nat} (hd : decode M.2.1 pc = .ok (.invokestatic idx, 3)) (hi : xSi M.1.cls idx M') (hc : xCode M') (ha : xAr M' j) (hj : As.length = j) : xGo C M pc M' As rest (As.reverse ++ rest) h k n := by
  intro p e s m args below meth c X H locs ls hR T hT XS
  have hKs := xC_K X
  obtain ⟨hx, hb9, hml, hown, -, -, -, -, hstt, hK, hts, -⟩ := X
  obtain ⟨hlink, hstat, hy⟩ := hi
  obtain ⟨mk, methM, cM, hnamed, hmethM, -, -, -, -, -, -, hsigM⟩ := Cond.codeWith_spec (xCode_at (a := args) hc hKs)
  have hstatic : methM.isStatic = true := Cond.static_spec hnamed hmethM (hts _ hstat)
  obtain ⟨kP, hkP, -⟩ := className_of_methodNamed hnamed
  have hinitP : kP.init = .initialized := Cond.initialized_spec (findClass_of_methodNamed hnamed) hkP (hts _ hc.2.1)
  have hlen := hj.trans (xAr_len ha _ hsigM)
  rcases hlink with hlink | ⟨host, hlink⟩
  · obtain ⟨vm₁, X₁, hstep₁⟩ := XS.invokestatic hx hown (hts _ hlink) hnamed hmethM hstatic hkP hinitP hy (g := F0 m pc ls (As.reverse ++ rest)) rfl (argsL := As) (rest := rest) hlen rfl (by rw [hb9]; exact hd)
    exact ⟨mk, vm₁, hnamed, X₁.warmed, X₁, hstep₁⟩
  · obtain ⟨vm₁, X₁, hstep₁⟩ := XS.invokestaticNest hx hown (hts _ hlink) hnamed hmethM hstatic hkP hinitP hy (g := F0 m pc ls (As.reverse ++ rest)) rfl (argsL := As) (rest := rest) hlen rfl (by rw [hb9]; exact hd)
    exact ⟨mk, vm₁, hnamed, X₁.warmed, X₁, hstep₁⟩
end XGO
end
section
/-! More rows: boolean arrays, a static, a copy of longs, a constant, throwing, catching. -/
section XMORE
variable {C : xCt} {M : xMt} {pc : Nat} {L : List (Option Value)} {st : List Value} {h : xH} {k n : Nat}
theorem ex_zaload {a N j : Nat} {f : Nat → Int32} {i : Int32} (hd : decode M.2.1 pc = .ok (.baload, 1)) (hh : h.2 a = some (.inl (3, N, .inl f))) (hi : i = nI j) (hj : j < N) (hN : N < 2 ^ 31) (kk : Ex C M (pc + 1) L (.int (f j) :: st) h k n) : Ex C M pc L (.int i :: .ref a :: st) h k n := by
  subst hi
  intro p e s m args below meth c X H locs ls hL hR hS
  have kk := kk p e s m args below meth c X H locs ls hL hR hS
  obtain ⟨hx, hb, -, -, -, -, -, -, -, hK, -⟩ := X
  refine va_zald hx hb hK (xone hR hh) 0 3 rfl rfl (vp_in_nI hj hN) hd ?_
  rw [nI_clamp (by omega)]
  exact kk
theorem ex_zastore {a N j : Nat} {f : Nat → Int32} {i x : Int32} (hd : decode M.2.1 pc = .ok (.bastore, 1)) (hh : h.2 a = some (.inl (3, N, .inl f))) (hi : i = nI j) (hj : j < N) (hN : N < 2 ^ 31) (hx : x = 0 ∨ x = 1) (kk : Ex C M (pc + 1) L st (xup h a (.inl (3, N, .inl (upd f j x)))) k n) : Ex C M pc L (.int x :: .int i :: .ref a :: st) h k n := by
  subst hi
  intro p e s m args below meth c X H locs ls hL hR hS
  have kk := kk p e s m args below meth c X
  obtain ⟨hx9, hb, -, -, -, -, -, -, -, hK, -⟩ := X
  have h0 : H[a]? = some (vp_cell (C.2.1.2.1 3) (N, .inl f)) := hR.2 a _ hh
  have hnar : narrow .boolean (.int x) = .int x := by rcases hx with rfl | rfl <;> decide
  refine W.zast hx9 hb h0 ((hK.2 3 _ rfl).1 N (fun j => .int (f j))) (fun q => by cases q) (by show ¬ (_ ∨ (arrV _ _ _).slots.size ≤ _); rw [arrV_size]; exact vp_in_nI hj hN) rfl rfl hd fun H1 e z oq => ?_
  rw [nI_clamp (by omega)] at e ⊢
  refine kk H1 _ ls hL (xRep_up hR ?_ z oq) (xS_up hS hh z oq)
  show H1[a]? = some (vp_cell _ _)
  rw [e, vp_cell_i, vp_cell_i, arrV_store]
  congr 2
  funext q
  by_cases hq : q = j
  · subst hq
    simp [updV, upd, hnar]
  · simp [updV, upd, hq]
theorem ex_newz {N : Nat} {i : Int32} (hd : decode M.2.1 pc = .ok (.newarray .boolean, 2)) (hw : Cond.arrayClass .boolean ∈ xTAB) (hi : i = nI N) (hN : N < 65536) (hk : k + 1 ≤ C.2.2.2.1) (hn : n + N ≤ C.2.2.2.2.1) (kk : Ex C M (pc + 2) L (.ref h.1 :: st) (xnew h (.inl (3, N, .inl (fun _ => 0)))) (k + 1) (n + N)) : Ex C M pc L (.int i :: st) h k n := by
  subst hi
  intro p e s m args below meth c X H locs ls hL hR hS
  have kk := kk p e s m args below meth c X
  obtain ⟨hx, hb, -, hown, -, -, -, -, -, hK, hts, -⟩ := X
  refine va_newaK (atype := .boolean) hx hb (hts _ hw) rfl hd rfl (nI_pos (by omega)) (nI_clamp (by omega)) (by show N * 1 ≤ _; omega) hk hn hR.1 fun H1 cA e1 z1 o1 hAr hNm => ?_
  have hcA : cA = C.2.1.2.1 3 := Option.some.inj (hNm.symm.trans (va_nm_boolean (hK.2 3 _ rfl).2))
  subst hcA
  exact kk H1 locs ls hL (xRep_new hR (by show H1[h.1]? = some (vp_cell _ _); rw [e1, vp_cell_i]; rfl) z1 o1) (xS_new hS hR z1 o1)
theorem ex_ldc2 {idx : Nat} {v : Int64} (hd : decode M.2.1 pc = .ok (.ldc2_w idx, 3)) (hw : Cond.constantLong M.1.cls idx v ∈ xTAB) (kk : Ex C M (pc + 3) L (.long v :: st) h k n) : Ex C M pc L st h k n := by
  intro p e s m args below meth c X H locs ls hL hR hS
  have kk := kk p e s m args below meth c X H locs ls hL hR hS
  obtain ⟨hx, hb, -, hown, -, -, -, -, -, hK, hts, -⟩ := X
  exact lv_ldc2 hx hb hown (hts _ hw) hd kk
/-- the empty array of the class Writing -/
theorem ex_noEntries {idx : Nat} (hd : decode M.2.1 pc = .ok (.getstatic idx, 3)) (hw : Cond.fieldLink M.1.cls idx "PairedWords$Writing" "NO_ENTRIES" "[I" ∈ xTAB) (kk : ∀ (a : Nat) (f : Nat → Int32), C.2.1.2.2 a = some (0, f) → Ex C M (pc + 3) L (.ref a :: st) h k n) : Ex C M pc L st h k n := by
  intro p e s m args below meth c X H locs ls hL hR hS
  have XX := X
  obtain ⟨hx, hb, -, hown, -, -, -, -, -, hK, hts, -, ⟨-, -, -, a, f, h5, h6⟩, -⟩ := X
  exact va_gets hx hb h6.z hS.va hown (hts _ hw) (fun _ h9 => h9) hd (kk a f h5 p e s m args below meth c XX H locs ls hL hR hS)
theorem ex_copyl {a0 a N0 N1 idx N : Nat} {f g : Nat → Int64} {i0 i1 i2 : Int32} (hd : decode M.2.1 pc = .ok (.invokestatic idx, 3)) (hw : Cond.methodLink M.1.cls idx arraycopyName ∈ xTAB) (w1 : Cond.native arraycopyName ∈ xTAB) (w2 : Cond.static arraycopyName ∈ xTAB) (w3 : Cond.initialized "java/lang/System" ∈ xTAB)
    (h0 : h.2 a0 = some (.inl (1, N0, .inr (.inl f)))) (h1 : h.2 a = some (.inl (1, N1, .inr (.inl g)))) (e0 : i0 = 0) (e1 : i1 = 0) (e2 : i2 = nI N) (hN0 : N ≤ N0) (hN1 : N ≤ N1) (hN : N < 2 ^ 31) (hst : (st.map fun v => v.category).sum ≤ 16)
    (kk : Ex C M (pc + 3) L st (xup h a (.inl (1, N1, .inr (.inl (fun j => if j < N then f j else g j))))) k n) : Ex C M pc L (.int i2 :: .int i1 :: .ref a :: .int i0 :: .ref a0 :: st) h k n := by
  subst e0; subst e1; subst e2
  intro p e s m args below meth c X H locs ls hL hR hS T hT XS
  have kk := kk p e s m args below meth c X
  obtain ⟨hx, hb, hml, hown, -, -, -, -, -, hK, hts, -⟩ := X
  have hc0 : H[a0]? = some (vp_cell (C.2.1.2.1 1) (N0, .inr (.inl f))) := hR.2 a0 _ h0
  have hc1 : H[a]? = some (vp_cell (C.2.1.2.1 1) (N1, .inr (.inl g))) := hR.2 a _ h1
  have hcl9 : (nI N).toNatClampNeg = N := nI_clamp hN
  have hto : (nI N).toInt = (N : Int) := nI_toInt hN
  have hz : (0 : Int32).toInt = 0 := rfl
  have hz2 : (0 : Int32).toNatClampNeg = 0 := rfl
  obtain ⟨-, k0, hk0, cm0, hkk0⟩ := (hK.2 1 _ rfl).1 N0 (fun j => .long (f j))
  obtain ⟨-, k1, hk1, cm1, hkk1⟩ := (hK.2 1 _ rfl).1 N1 (fun j => .long (g j))
  obtain ⟨vm', X', step⟩ := XS.arraycopy hx hown (hts _ hw) (hts _ w1) (hts _ w2) (hts _ w3) (src := a0) (dst := a) (cs := vp_cell (C.2.1.2.1 1) (N0, .inr (.inl f))) (cd := vp_cell (C.2.1.2.1 1) (N1, .inr (.inl g))) (srcPos := 0) (destPos := 0) (n := nI N) (by rw [hT]; exact hc0) (by rw [hT]; exact hc1)
    (fun _ h => by cases h) (fun _ h => by cases h) (fun h => by cases h) (fun h => by cases h) hk0 hk1 hkk0 hkk1 (by simp [refKind]) (by decide) (by decide) (nI_pos hN)
    (by rw [hto, hz]; show ¬ _ > ((arrV _ N0 (fun j => .long (f j))).slots.size : Int); rw [arrV_size]; omega)
    (by rw [hto, hz]; show ¬ _ > ((arrV _ N1 (fun j => .long (g j))).slots.size : Int); rw [arrV_size]; omega)
    (fun vm₁ _ i hi => by
      rw [hcl9] at hi
      have e : (vp_cell (C.2.1.2.1 1) (N0, .inr (.inl f))).slots.getD ((0 : Int32).toNatClampNeg + i) .null = .long (f i) := by
        show (arrV _ N0 (fun j => .long (f j))).slots.getD _ _ = _
        rw [hz2, Nat.zero_add, Array.getD_eq_getD_getElem?, arrV_read _ _ (by omega)]
        rfl
      refine ⟨?_, ?_⟩
      · rw [e]; rfl
      · rw [e]; exact trivial)
    (g := F0 m pc ls (.int (nI N) :: .int 0 :: .ref a :: .int 0 :: .ref a0 :: st)) rfl (by rw [hml]; exact hL.1) (rest := st) rfl (by rw [hb]; exact hd) (by show 1 ≤ C.2.2.1 + 8; omega) (by show 2 * 0 + _ + _ ≤ 64 * C.2.2.1 + 200; have hw9 : nativeFrameWords "java/lang/System" "arraycopy" 5 ≤ 100 := (by decide); omega)
  have e1 : copied (vp_cell (C.2.1.2.1 1) (N0, .inr (.inl f))) (vp_cell (C.2.1.2.1 1) (N1, .inr (.inl g))) 0 0 (nI N) = vp_cell (C.2.1.2.1 1) (N1, .inr (.inl (fun j => if j < N then f j else g j))) := by
    refine (va_copied (fun z => .long z) (C.2.1.2.1 1) (C.2.1.2.1 1) f g (by rw [hz2, hcl9]; omega)).trans ?_
    rw [vp_cell_l, hz2, hcl9]
    congr 1
    funext j
    simp only [va_cpy]
    by_cases hj : j < N
    · rw [if_pos ⟨Nat.zero_le _, by omega⟩, if_pos hj]; congr 2; omega
    · rw [if_neg (by omega), if_neg hj]
  rw [e1] at X' step
  have hl : a < H.size := (Array.getElem?_eq_some_iff.mp hc1).1
  generalize hcell : vp_cell (C.2.1.2.1 1) (N1, .inr (.inl (fun j => if j < N then f j else g j))) = cell at X' step
  have hheap : ((T.setVm vm').setCell a cell).heap = H.setIfInBounds a cell := by rw [← hT]; rfl
  have oq : ∀ q : Nat, q ≠ a → (H.setIfInBounds a cell)[q]? = H[q]? := fun q hq => by simp [Array.getElem?_setIfInBounds, Ne.symm hq]
  have hA : xA C.2.2.2.2.2.1 a := hS.2.2.2 a (Or.inl (by rw [h1]; rfl))
  obtain ⟨t, a1, b1⟩ := kk (H.setIfInBounds a cell) _ ls hL (xRep_up hR (show (H.setIfInBounds a cell)[a]? = some _ by rw [← hcell]; simp [Array.getElem?_setIfInBounds, hl]) (by simp) oq)
    ⟨by simp; exact hS.1, fun q g1 g2 => by
      rw [oq q (fun e => g2 (by rw [e]; exact hA))]
      exact hS.2.1 q g1 g2, fun q hq => by
      rcases List.mem_append.mp hq with h9 | h9
      · exact hS.2.2.1 q h9
      · obtain ⟨z, -, hz9⟩ := List.mem_map.mp h9
        rw [← hz9]
        exact hA, fun q hq => hS.2.2.2 q ((xA_up h1 q).mp hq)⟩ _ hheap X'
  exact ⟨t, step t a1, b1⟩
end XMORE
end
section
/-! Throwing and catching (launches without stack traces). -/
section XTHROW
/-- the frame as if it had been entered in the heap of now: what was written before is old -/
theorem xrebase {p : Program} {l : Launch} {e : Env} {R : Room} {s : State} {m : MethodId} {args : Array Value} {below : List Frame} {meth : Method} {c : Code} {T : State} {locs : List Loc} {k n : Nat} (X : Stand p l e R s m args below meth c T locs k n) {R' : Room} (hf : R'.frames ≤ R.frames) (hl : R'.locals ≤ R.locals) (hc : k + R'.cells ≤ R.cells) (hs : n + R'.slots ≤ R.slots) :
    Stand p l e R' ((T.setVm s.vm).setFrames (.invoking m args :: below)) m args below meth c T [] 0 0 := by
  have htop : (T.setVm s.vm).topJava?.isSome := X.here.top
  obtain ⟨g₀, hg0⟩ := Option.isSome_iff_exists.mp htop
  obtain ⟨r, hr⟩ := State.topJava?_eq_some.mp hg0
  obtain ⟨th, hth, -⟩ := State.frames_cons hr
  have hF : ((T.setVm s.vm).setFrames (.invoking m args :: below)).frames = .invoking m args :: below := State.frames_setFrames _ (State.cur_lt_of_top htop)
  have hlim : e.platform.stackLimits (T.setVm s.vm).me = e.platform.stackLimits s.me := X.limits
  have hbyt : (T.setVm s.vm).me.stackBytes = s.me.stackBytes := X.bytes
  have hdrop : T.heap.toList.drop T.heap.size = [] := List.drop_eq_nil_of_le (Nat.le_of_eq Array.length_toList)
  refine ⟨X.admits, X.cas, X.clock, hF, ?_, X.hears, X.method, X.code, X.here, X.tail, X.warmed, ?_, ?_, ?_, Nat.le_refl _, Nat.le_refl _, ?_, ?_, fun a c9 h9 => ⟨c9, h9, rfl, rfl, fun _ _ => rfl⟩⟩
  · have h := X.room
    have hU : ((T.setVm s.vm).setFrames (.invoking m args :: below)).localsInUse = s.localsInUse := by
      rw [State.localsInUse_invoking hF (meth := meth) (c := c) X.method X.code, State.localsInUse_invoking X.frames X.method X.code]
    simp only [State.hasRoom, Bool.and_eq_true, decide_eq_true_eq] at h ⊢
    obtain ⟨⟨⟨⟨h1, h2, h3, h4, h5, h6⟩, h7⟩, h8⟩, h9⟩ := h
    rw [X.frames, List.length_cons] at h2 h3
    have q1 := X.heapSize
    have q2 := X.used
    simp only [hF, hU, List.length_cons, State.stackLimits_setFrames, State.stackBytes_setFrames, hlim, hbyt]
    have z1 : T.heap.size + R'.cells ≤ e.platform.maxCells := by omega
    have z2 : T.slotsUsed + R'.slots ≤ e.platform.maxSlots := by omega
    exact ⟨⟨⟨⟨by omega, by omega, by omega, by omega, by omega, h6⟩, z1⟩, z2⟩, X.book⟩
  · rw [State.stackLimits_setFrames]; rfl
  · rw [State.stackBytes_setFrames]; rfl
  · show T.setVm s.vm = { ((T.setVm s.vm).setFrames (.invoking m args :: below)).setFrames (T.setVm s.vm).frames with heap := T.heap, slotsUsed := T.slotsUsed }
    rw [State.setFrames_setFrames, State.setFrames_self hth]
    rfl
  · show T.slotsUsed = T.slotsUsed + ((T.heap.toList.drop T.heap.size).map (·.slots.size)).sum
    rw [hdrop]; rfl
  · show ((T.heap.toList.drop T.heap.size).map (·.slots.size)).sum ≤ 0
    rw [hdrop]; exact Nat.le_refl _
theorem xunmoved {s U : State} {k n : Nat} (h : s.sameButNew ({ U with vm := s.vm } : State) [] k n) : s.heap.size ≤ U.heap.size ∧ U.heap.size ≤ s.heap.size + k ∧ ∀ q : Nat, q < s.heap.size → U.heap[q]? = s.heap[q]? := by
  obtain ⟨-, h2, h3, -, -, h6⟩ := h
  refine ⟨h2, h3, fun q hq => ?_⟩
  obtain ⟨c9, e1, e2, -, e4⟩ := h6 q _ (Array.getElem?_eq_getElem hq)
  have hs : c9.slots = (s.heap[q]).slots := Array.ext_getElem? fun i => e4 i (fun hm => nomatch hm)
  have h9 : c9 = s.heap[q] := by rw [hs] at e2; exact e2
  have e5 : U.heap[q]? = some c9 := e1
  rw [e5, h9, Array.getElem?_eq_getElem hq]
/-- the words of a throw that speak of the heap -/
def xhw (w : Cond) : Bool := decide (w = .isRef (.static Bundle.tN "UNASSIGNED_STACK" Bundle.steD)) || decide (w = .isRef (.static Bundle.tN "SUPPRESSED_SENTINEL" Bundle.listD)) || decide (w = .laysStatic Bundle.tN "UNASSIGNED_STACK" Bundle.steD) || decide (w = .laysStatic Bundle.tN "SUPPRESSED_SENTINEL" Bundle.listD)
def xOwn (own : String) (ik is ic : Nat) (E text : String) (names : List String) : Prop :=
  (∀ w ∈ Bundle.ownAtoms own ic E names, w ∈ xTAB ∨ xhw w = true) ∧ Cond.classLink own ik E ∈ xTAB ∧ Cond.initialized E ∈ xTAB ∧ Cond.instantiable E 6 ∈ xTAB ∧ (own, is, text) ∈ xSTR ∧ Bundle.fit E = true ∧ (∀ n ∈ names, Bundle.fit n = true) ∧ names.length ≤ 2
variable {C : xCt} {M : xMt} {pc : Nat} {L : List (Option Value)} {st : List Value} {h : xH} {k n : Nat}
theorem ex_throw {ik is ic : Nat} {E text : String} {names : List String} (d0 : decode M.2.1 pc = .ok (.new ik, 3)) (d3 : decode M.2.1 (pc + 3) = .ok (.dup, 1)) (d4 : decode M.2.1 (pc + 4) = .ok (.ldc is, 2)) (d6 : decode M.2.1 (pc + 6) = .ok (.invokespecial ic, 3)) (d9 : decode M.2.1 (pc + 9) = .ok (.athrow, 1))
    (hw : xOwn M.1.cls ik is ic E text names) (hh : M.2.2.2.2 = []) (hst : (st.map fun v => v.category).sum ≤ 16) (hk : k + 1 ≤ C.2.2.2.1) (hn : n + 6 ≤ C.2.2.2.2.1) (hq : C.2.2.2.2.2.2 (.inr E) (xbump h)) : Ex C M pc L st h k n := by
  intro p e s m args below meth c X H locs ls hL hR hS T hT XS
  have XX := X
  have hKs := xC_K X
  obtain ⟨hx, hb, hml, hown, -, hlk, -, htab, hstt, hK, hts, hR0, hZ0, hT0⟩ := X
  obtain ⟨hat, hcl, hini, hins, hstr, hfit, hnames, hnl⟩ := hw
  have htr : e.platform.stackTraces = false := (show e.platform.stackTraces = C.1.stackTraces by rw [XS.admits.platform]).trans hstt
  have Y := xrebase XS (R' := { frames := (xR C).frames, locals := (xR C).locals, cells := 1, slots := 6 }) (Nat.le_refl _) (Nat.le_refl _) hk hn
  obtain ⟨s', hA⟩ : ∃ z, z = (T.setVm s.vm).setFrames (.invoking m args :: below) := ⟨_, rfl⟩
  rw [← hA] at Y
  have hvm : s'.vm = s.vm := by rw [hA]; rfl
  have hhp : s'.heap = H := by rw [hA]; exact hT
  have hW0 : s.WarmedH s'.vm := by rw [hvm]; exact State.WarmedH.refl s
  have hK' : xK C.2.1 s' := xK_moved hW0 hKs
  have hZ' : xZ C.2.1 h s' s'.heap := by rw [hhp]; exact xZ_at hZ0 hS hW0.alike
  have hts' := xK_words (args := args) hK'
  obtain ⟨-, ⟨v1, r1, s1⟩, ⟨v2, r2, s2⟩, -⟩ := hZ'
  have hwords : ∀ w ∈ Bundle.ownAtoms M.1.cls ic E names, w.before args s' = true := fun w hw9 => by
    rcases hat w hw9 with h1 | h1
    · exact hts' w h1
    · simp only [xhw, Bool.or_eq_true, decide_eq_true_eq] at h1
      rcases h1 with ((h1 | h1) | h1) | h1
      · rw [h1]; exact s1.isRef r1
      · rw [h1]; exact s2.isRef r2
      · rw [h1]; exact s1.lays
      · rw [h1]; exact s2.lays
  have hown' : s'.vm.findClass M.1.cls = some m.cls := by rw [hvm]; exact hown
  obtain ⟨vm₁, cX, kX, hfX, hkX, -, -, X₁, st1⟩ := Y.newCold hx (own := M.1.cls) (C := E) (index := ik) (n := 6) hown' (hts' _ hcl) (hts' _ hins) (hts' _ hini)
    (g := F0 m pc ls st) rfl (by rw [hb]; exact d0) (Nat.le_refl _) (Nat.le_refl _)
  generalize hT1 : (T.setVm vm₁).pushCell { cls := cX, slots := kX.instanceTypes.map defaultValue, vm := .none } = T1 at X₁ st1
  have hcat : (Value.ref T.heap.size).category = 1 := rfl
  have hcellA : T1.heap[T.heap.size]? = some (freshCell cX kX) := by rw [← hT1]; exact State.heap_pushCell_size _ _
  have hT1sz : T1.heap.size = T.heap.size + 1 := by rw [← hT1]; exact State.heap_size_pushCell _ _
  have d3' : decode c.code (pc + 3) = .ok (.dup, 1) := by rw [hb]; exact d3
  have d4' : decode c.code (pc + 4) = .ok (.ldc is, 2) := by rw [hb]; exact d4
  obtain ⟨sa, hsa⟩ := hK'.2.2.1 _ hstr
  have hout : ∀ x ∈ c.exceptionTable.toList, covers x (pc + 9) = false := fun x hx9 => by
    rw [hh] at htab
    rw [List.map_eq_nil_iff.mp htab] at hx9
    cases hx9
  obtain ⟨U, hsteps, hrun, hend, hW, hsame, ce, hce, hO⟩ := X₁.ctorThrowS hx htr (own := M.1.cls) (cls := E) (names := names) (ic := ic) hown' hfit hnames hwords (fun x hx => nomatch hx) hfX hkX hcellA (by rw [hhp, hT]; exact Nat.le_refl _) (msg := .ref sa) rfl
    (g := { method := m, pc := pc + 6, locals := ls, stack := .ref sa :: .ref T.heap.size :: .ref T.heap.size :: st, locked := none }) rfl (by rw [hml]; exact hL.1) rfl rfl (rest := st) rfl
    (by rw [hb]; exact d6) (by rw [hb]; exact d9) hout (by show _ < C.2.2.1 + 8; omega) (by show 2 * 0 + _ + _ ≤ 64 * C.2.2.1 + 200; simp only [List.map_cons, List.sum_cons, hcat]; omega) hlk
  obtain ⟨f1, f2, f3⟩ := xunmoved hsame
  rw [hhp] at f1 f2 f3
  have hWs : s.WarmedH U.vm := State.WarmedH.trans hW0 hW
  have hUs : U.heap.size = H.size + 1 := by
    have := hsteps.heap_le
    have h9 : T1.heap.size ≤ U.heap.size := this
    rw [hT1sz, hT] at h9
    omega
  have hcls : s.vm.findClass E = some ce.cls := by
    have h9 := hO.cls
    rw [hvm] at h9
    exact h9
  have hall : s.sameButNew ({ U with vm := s.vm } : State) locs C.2.2.2.1 C.2.2.2.2.1 := by
    subst hA
    obtain ⟨e1, e2⟩ := hsame
    rw [State.setFrames_setFrames] at e1
    have h2 : (T.setVm s.vm).sameButNew ({ U with vm := s.vm } : State) [] (0 + 1) (0 + 6) := ⟨e1, e2⟩
    have h3 := XS.same.trans h2
    rw [List.append_nil] at h3
    exact h3.mono hk hn
  refine ⟨U, ?_, .threw T.heap.size, hrun, hend, .inr E, xbump h, hq, ⟨T.heap.size, ce, rfl, hce, hO.vm, hcls⟩, ⟨by rw [hUs, hR.1]; rfl, fun a e9 h9 => ?_⟩, hWs, locs, ⟨Nat.le_trans hS.1 f1, fun q g1 g2 => ?_, hS.2.2.1, fun q hq9 => ?_⟩, hall⟩
  · refine st1 _ ?_
    show Steps p.tables e below (T1.setTop { method := m, pc := pc + 3, locals := ls, stack := .ref T.heap.size :: st, locked := none }) _
    jvm_step X₁.here [X₁.here.top, hx, d3', Value.category]
    exact X₁.ldcString hx (own := M.1.cls) (text := text) (index := is) (a := sa) hown' hsa.1 hsa.2
      (g := { method := m, pc := pc + 4, locals := ls, stack := .ref T.heap.size :: .ref T.heap.size :: st, locked := none }) rfl d4' _ hsteps
  · have h8 : h.2 a = some e9 := h9
    exact (hR.2 a e9 h8).kept (f3 a (hR.2 a e9 h8).lt)
  · rw [f3 q (Nat.lt_of_lt_of_le g1 hS.1)]; exact hS.2.1 q g1 g2
  · rcases hq9 with h8 | h8
    · exact hS.2.2.2 q (Or.inl h8)
    · exact hS.2.2.2 q (Or.inr (Nat.le_of_succ_le h8))
end XTHROW
end
section
/-! Catching: a handler table of one or two rows; the rows' classes may still be open in the pool. -/
section XCATCH
def xFT (e : Env) (S : State) (f : JFrame) (a : Addr) (h : Handler) (vm' : Vm) : Prop :=
  ∀ (Q : Handler → Pre) (E : CtlPost) (d : Bool) (acts : List Action), wp (findHandler f a) Q E e d acts S ↔ Q h d acts (S.setVm vm')
theorem xrow_yes {Q : Handler → Pre} {E : CtlPost} {e : Env} {d : Bool} {acts : List Action} {s : State} {f : JFrame} {a : Addr} {x : ExceptionTableEntry} {t : List ExceptionTableEntry} {c : ClassId} {cell : Cell} (hx : covers x f.pc = true) (h0 : x.catchType ≠ 0)
    (hl : s.vm.ClassLinks e.platform f.method.cls x.catchType c) (hcell : s.heap[a]? = some cell) (hobj : ∀ k, cell.vm ≠ .statics k) (hk : ∃ k, s.vm.classes[cell.cls]? = some k) (hc : ∃ k, s.vm.classes[c]? = some k) (hfit : s.vm.assignable cell.cls c = true) :
    wp (findHandler.go f a (x :: t)) Q E e d acts s ↔ Q (.found x.handlerPc) d acts (s.setVm (s.vm.noted f.method.cls x.catchType (.cls c))) := by
  simp only [covers] at hx
  obtain ⟨ha, ht⟩ := (resolveClass_links e.toSetting hl).op (op := VmOp.resolveClass f.method.cls x.catchType) rfl
  have hal : s.vm.Alike (s.vm.noted f.method.cls x.catchType (.cls c)) := (Vm.Alike.refl s.vm).noted _ _ _
  obtain ⟨k1, hk1⟩ := hk
  obtain ⟨k2, hk2⟩ := hc
  obtain ⟨k1', hk1', -⟩ := hal.2.2 _ _ hk1
  obtain ⟨k2', hk2', -⟩ := hal.2.2 _ _ hk2
  have hfit' : (s.vm.noted f.method.cls x.catchType (.cls c)).assignable cell.cls c = true := by rw [hal.assignable]; exact hfit
  simp [findHandler.go, hx, h0, ha, ht, hcell, hobj, hk1', hk2', hfit', VmOp.dirties, VmOp.acts]
theorem xrow_no {Q : Handler → Pre} {E : CtlPost} {e : Env} {d : Bool} {acts : List Action} {s : State} {f : JFrame} {a : Addr} {x : ExceptionTableEntry} {t : List ExceptionTableEntry} {c : ClassId} {cell : Cell} (hx : covers x f.pc = true) (h0 : x.catchType ≠ 0)
    (hl : s.vm.ClassLinks e.platform f.method.cls x.catchType c) (hcell : s.heap[a]? = some cell) (hobj : ∀ k, cell.vm ≠ .statics k) (hk : ∃ k, s.vm.classes[cell.cls]? = some k) (hc : ∃ k, s.vm.classes[c]? = some k) (hno : s.vm.assignable cell.cls c = false) :
    wp (findHandler.go f a (x :: t)) Q E e d acts s ↔ wp (findHandler.go f a t) Q E e d acts (s.setVm (s.vm.noted f.method.cls x.catchType (.cls c))) := by
  simp only [covers] at hx
  obtain ⟨ha, ht⟩ := (resolveClass_links e.toSetting hl).op (op := VmOp.resolveClass f.method.cls x.catchType) rfl
  have hal : s.vm.Alike (s.vm.noted f.method.cls x.catchType (.cls c)) := (Vm.Alike.refl s.vm).noted _ _ _
  obtain ⟨k1, hk1⟩ := hk
  obtain ⟨k2, hk2⟩ := hc
  obtain ⟨k1', hk1', -⟩ := hal.2.2 _ _ hk1
  obtain ⟨k2', hk2', -⟩ := hal.2.2 _ _ hk2
  have hno' : (s.vm.noted f.method.cls x.catchType (.cls c)).assignable cell.cls c = false := by rw [hal.assignable]; exact hno
  simp [findHandler.go, hx, h0, ha, ht, hcell, hobj, hk1', hk2', hno', VmOp.dirties, VmOp.acts]
theorem xcaught {tb : Tables} {e : Env} {s target : State} {g : JFrame} {c : Code} {below : List Frame} {a : Addr} (h : At s g.method c below) {pc : Nat} {vm' : Vm}
    (hfind : xFT e ((s.setTop g).pushFrame (.throwing a)) g a (.found pc) vm') (hrest : Steps tb e below ((s.setVm vm').setTop { g with pc := pc, stack := [.ref a] }) target) :
    Steps tb e below ((s.setTop g).pushFrame (.throwing a)) target := by
  obtain ⟨hgo, hw⟩ := h.throwing a
  have hstep : (stepThrowing e ((s.setTop g).pushFrame (.throwing a)) a (.java g :: s.frames.tail)).Is ((((s.setTop g).pushFrame (.throwing a)).setVm vm').setFrames (.java { g with pc := pc, stack := [.ref a] } :: s.frames.tail)) [] := by
    simp only [stepThrowing, searchFrame, vmDo]
    generalize hr : Sem.go _ e false [] ((s.setTop g).pushFrame (.throwing a)) = res
    obtain ⟨as, rfl, ha⟩ := Sem.eq_ok_of hr (a := Handler.found pc) (s' := ((s.setTop g).pushFrame (.throwing a)).setVm vm') (acts' := []) (by simp [hfind _ _ _ _])
    exact ⟨rfl, ha⟩
  refine Steps.head hgo hw ?_
  rw [stepThread_throwing (frames_entered h.top _), hstep.1]
  obtain ⟨g₀, hg⟩ := Option.isSome_iff_exists.mp h.top
  obtain ⟨r, hr⟩ := State.topJava?_eq_some.mp hg
  have hr' : (s.setVm vm').frames = .java g₀ :: r := hr
  have hh : ∀ (u : State) (F G : List Frame), ((u.setFrames F).setVm vm').setFrames G = (u.setVm vm').setFrames G := fun u F G => by
    have h1 : (u.setFrames F).setVm vm' = (u.setVm vm').setFrames F := rfl
    rw [h1, State.setFrames_setFrames]
  rw [State.setTop_of_frames _ hr'] at hrest
  rw [hr, List.tail_cons, State.pushFrame, hh, State.setTop_of_frames _ hr, hh]
  exact hrest
variable {C : xCt} {M : xMt} {pc : Nat} {L : List (Option Value)} {st : List Value} {h : xH} {k n : Nat}
theorem ex_catch1 {E nm : String} {a0 b0 p0 t0 : Nat} {tl : List (Nat × Nat × Nat × Nat)} (hh : M.2.2.2.2 = (a0, b0, p0, t0) :: tl) (hc : a0 ≤ pc ∧ pc < b0) (h0 : t0 ≠ 0) (hl : Cond.classLink M.1.cls t0 nm ∈ xTAB) (hk : Cond.castable E nm ∈ xTAB) (kk : ∀ q : Nat, Ex C M p0 L [.ref q] h k n) : ExX C M pc L st E h k n := by
  intro p e s m args below meth c X H locs ls hL hR hS q ce hce hcv hcl T hT XS
  have kk := kk q p e s m args below meth c X H locs ls hL hR hS
  obtain ⟨hx, hb, hml, hown, -, -, -, htab, -, hK, hts, -⟩ := X
  have hpl : e.platform.magicAccessors = ({} : Platform).magicAccessors := by rw [XS.admits.platform]
  obtain ⟨c3, c4, hc3, hc4, hasg⟩ := Cond.castable_spec (hts _ hk)
  cases Option.some.inj (hc3.symm.trans hcl)
  obtain ⟨c5, hc5, hcl5⟩ := Cond.classLink_spec hown (hts _ hl) e.platform hpl
  cases Option.some.inj (hc4.symm.trans hc5)
  have hal := XS.warmed.alike
  obtain ⟨dk, _, _, kt, hd, _, _, _, _, hkt, _, hopen⟩ := hcl5.here
  obtain ⟨kt', hkt', -⟩ := hal.2.2 _ _ hkt
  obtain ⟨ke, hke, -⟩ := Vm.findClass_spec hcl
  obtain ⟨ke', hke', -⟩ := hal.2.2 _ _ hke
  have htl : c.exceptionTable.toList = (⟨a0, b0, p0, t0⟩ : ExceptionTableEntry) :: tableOf tl := by
    rw [← table_eq c.exceptionTable.toList, htab, hh]; rfl
  have hfind : xFT e ((T.setTop (F0 m pc ls st)).pushFrame (.throwing q)) (F0 m pc ls st) q (.found p0) (T.vm.noted m.cls t0 (.cls c4)) := by
    intro Q E9 d acts
    rw [W.findHandler_eq (f := F0 m pc ls st) (s := (T.setTop (F0 m pc ls st)).pushFrame (.throwing q)) (meth := meth) (code := c) XS.method' XS.code, htl]
    exact xrow_yes (f := F0 m pc ls st) (s := (T.setTop (F0 m pc ls st)).pushFrame (.throwing q)) (x := ⟨a0, b0, p0, t0⟩) (by simp only [covers]; simp [hc.1, hc.2]) h0 (XS.warmed.classLinks hcl5) (by show T.heap[q]? = some ce; rw [hT]; exact hce) (fun k9 h9 => by rw [hcv] at h9; cases h9) ⟨ke', hke'⟩ ⟨kt', hkt'⟩ (by show T.vm.assignable _ _ = true; rw [hal.assignable]; exact hasg)
  have X' := XS.noted (XS.warmed.noted hd hopen (State.rightAt_cls hcl5))
  obtain ⟨t, a1, b1⟩ := kk (T.setVm (T.vm.noted m.cls t0 (.cls c4))) hT X'
  exact ⟨t, xcaught (g := F0 m pc ls st) XS.here hfind a1, b1⟩
theorem ex_catch2 {E nm nm2 : String} {a0 b0 p0 t0 a1 b1 p1 t1 : Nat} {tl : List (Nat × Nat × Nat × Nat)} (hh : M.2.2.2.2 = (a0, b0, p0, t0) :: (a1, b1, p1, t1) :: tl) (hc : a0 ≤ pc ∧ pc < b0) (h0 : t0 ≠ 0) (hl : Cond.classLink M.1.cls t0 nm ∈ xTAB) (hno : E = "java/lang/IllegalStateException" ∧ nm = "java/lang/IllegalArgumentException")
    (hc2 : a1 ≤ pc ∧ pc < b1) (h1 : t1 ≠ 0) (hl2 : Cond.classLink M.1.cls t1 nm2 ∈ xTAB) (hk : Cond.castable E nm2 ∈ xTAB) (kk : ∀ q : Nat, Ex C M p1 L [.ref q] h k n) : ExX C M pc L st E h k n := by
  intro p e s m args below meth c X H locs ls hL hR hS q ce hce hcv hcl T hT XS
  have kk := kk q p e s m args below meth c X H locs ls hL hR hS
  obtain ⟨hx, hb, hml, hown, -, -, -, htab, -, hK, hts, -, -, hT0⟩ := X
  have hpl : e.platform.magicAccessors = ({} : Platform).magicAccessors := by rw [XS.admits.platform]
  obtain ⟨c3, c4, hc3, hc4, hasg⟩ := Cond.castable_spec (hts _ hk)
  cases Option.some.inj (hc3.symm.trans hcl)
  obtain ⟨c5, hc5, hcl5⟩ := Cond.classLink_spec hown (hts _ hl2) e.platform hpl
  cases Option.some.inj (hc4.symm.trans hc5)
  obtain ⟨c6, hc6, hcl6⟩ := Cond.classLink_spec hown (hts _ hl) e.platform hpl
  obtain ⟨e1, n1, f1, f2, f3⟩ := hT0.2
  rw [hno.1] at hcl
  rw [hno.2] at hc6
  cases Option.some.inj (f1.symm.trans hcl)
  cases Option.some.inj (f2.symm.trans hc6)
  have hal := XS.warmed.alike
  obtain ⟨dk, _, _, kt, hd, _, _, _, _, hkt, _, hopen⟩ := hcl5.here
  obtain ⟨dk2, _, _, kt2, hd2, _, _, _, _, hkt2, _, hopen2⟩ := hcl6.here
  obtain ⟨ke, hke, -⟩ := Vm.findClass_spec hcl
  have htl : c.exceptionTable.toList = (⟨a0, b0, p0, t0⟩ : ExceptionTableEntry) :: (⟨a1, b1, p1, t1⟩ : ExceptionTableEntry) :: tableOf tl := by
    rw [← table_eq c.exceptionTable.toList, htab, hh]; rfl
  have hW1 : s.WarmedH (T.vm.noted m.cls t0 (.cls c6)) := XS.warmed.noted hd2 hopen2 (State.rightAt_cls hcl6)
  have hW2 : s.WarmedH ((T.vm.noted m.cls t0 (.cls c6)).noted m.cls t1 (.cls c4)) := hW1.noted hd hopen (State.rightAt_cls hcl5)
  have hfind : xFT e ((T.setTop (F0 m pc ls st)).pushFrame (.throwing q)) (F0 m pc ls st) q (.found p1) ((T.vm.noted m.cls t0 (.cls c6)).noted m.cls t1 (.cls c4)) := by
    intro Q E9 d acts
    obtain ⟨ke', hke', -⟩ := hal.2.2 _ _ hke
    obtain ⟨kt2', hkt2', -⟩ := hal.2.2 _ _ hkt2
    obtain ⟨ke3, hke3, -⟩ := hW1.alike.2.2 _ _ hke
    obtain ⟨kt3, hkt3, -⟩ := hW1.alike.2.2 _ _ hkt
    rw [W.findHandler_eq (f := F0 m pc ls st) (s := (T.setTop (F0 m pc ls st)).pushFrame (.throwing q)) (meth := meth) (code := c) XS.method' XS.code, htl]
    rw [xrow_no (f := F0 m pc ls st) (s := (T.setTop (F0 m pc ls st)).pushFrame (.throwing q)) (x := ⟨a0, b0, p0, t0⟩) (cell := ce) (c := c6) (by simp only [covers]; simp [hc.1, hc.2]) h0 (XS.warmed.classLinks hcl6) (by show T.heap[q]? = some ce; rw [hT]; exact hce) (fun k9 h9 => by rw [hcv] at h9; cases h9) ⟨ke', hke'⟩ ⟨kt2', hkt2'⟩ (by show T.vm.assignable _ _ = false; rw [hal.assignable]; exact f3)]
    exact xrow_yes (f := F0 m pc ls st) (s := ((T.setTop (F0 m pc ls st)).pushFrame (.throwing q)).setVm (T.vm.noted m.cls t0 (.cls c6))) (x := ⟨a1, b1, p1, t1⟩) (cell := ce) (by simp only [covers]; simp [hc2.1, hc2.2]) h1 (hW1.classLinks hcl5) (by show T.heap[q]? = some ce; rw [hT]; exact hce) (fun k9 h9 => by rw [hcv] at h9; cases h9) ⟨ke3, hke3⟩ ⟨kt3, hkt3⟩ (by show (T.vm.noted m.cls t0 (.cls c6)).assignable _ _ = true; rw [hW1.alike.assignable]; exact hasg)
  have X' := XS.noted hW2
  obtain ⟨t, a9, b9⟩ := kk (T.setVm ((T.vm.noted m.cls t0 (.cls c6)).noted m.cls t1 (.cls c4))) hT X'
  exact ⟨t, xcaught (g := F0 m pc ls st) XS.here hfind a9, b9⟩
end XCATCH
end
